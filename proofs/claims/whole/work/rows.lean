section
theorem goodIn_r {big : List Cond} (ws : List Cond) (ps : List Nat) (hp : ws = ps.filterMap (fun i => big[i]?)) (h : ws.all goodWord = true) : GoodIn big ws := by
  intro w hw
  have h1 := List.all_eq_true.mp h w hw
  rw [hp] at hw
  obtain ⟨i, -, hi⟩ := List.mem_filterMap.mp hw
  have hm : w ∈ big := by first | exact List.mem_of_getElem? hi | exact List.getElem?_mem hi
  exact ⟨hm, good_of_word h1⟩
theorem goodIn_app {big a b : List Cond} (ha : GoodIn big a) (hb : GoodIn big b) : GoodIn big (a ++ b) := fun w h => (List.mem_append.mp h).elim (ha w) (hb w)
theorem goodIn_ca {big a b : List Cond} {c : Cond} (ha : GoodIn big (c :: a)) (hb : GoodIn big b) : GoodIn big (c :: (a ++ b)) := fun w h => (List.mem_cons.mp h).elim (fun e => ha w (List.mem_cons.mpr (Or.inl e))) (fun h => (List.mem_append.mp h).elim (fun h => ha w (List.mem_cons.mpr (Or.inr h))) (hb w))
theorem goodIn_sub {big ws : List Cond} (hm : ∀ w ∈ ws, w ∈ big) (h : ws.all goodWord = true) : GoodIn big ws := fun w hw => ⟨hm w hw, good_of_word (List.all_eq_true.mp h w hw)⟩

section VXA
def vx_T (XC : String → State → State → Prop) (st : State) (q : Addr) (t : State) (mc ms : Nat) (free : Addr → Prop) : Prop :=
  ∃ (E : String) (ce : Cell) (L : List Loc), XC E st t ∧ t.heap[q]? = some ce ∧ ce.vm = .none ∧ st.vm.findClass E = some ce.cls ∧ st.WarmedH t.vm ∧ st.sameButNew ({ t with vm := st.vm } : State) L mc ms ∧ ∀ z ∈ L, free z.base
def vx_Q (Qc : Array Value → State → Outcome → State → Prop) (XC : String → State → State → Prop) (mc ms : Nat) (free : Addr → Prop) : Array Value → State → Outcome → State → Prop := fun a st o t =>
  (Qc a st o t ∧ ∃ L, FrameEnd st o t L mc ms ∧ ∀ q ∈ L, free q.base) ∨ ∃ q, o = .threw q ∧ vx_T XC st q t mc ms free
def vx_Met (l : Launch) (y : MethodName) (ws : List Cond) (rm : Room) (Pc : Array Value → State → Prop) (Qc : Array Value → State → Outcome → State → Prop) (XC : String → State → State → Prop) (mc ms : Nat) (free : Addr → Prop) : Prop :=
  MetFree l y (headSpec ws rm) Pc (fun _ _ _ _ _ => True) (vx_Q Qc XC mc ms free)
def vx_Post (XC : String → State → State → Prop) (mc ms : Nat) (free : Addr → Prop) : Pt → Array Value → Addr → Pt → Prop := fun A a q B =>
  ∃ (g : JFrame) (mk : MethodId) (t : State) (L : List Loc) (E : String) (ce : Cell), B.U.heap = t.heap ∧ B.U.vm = t.vm ∧ XC E (A.U.calling g mk a) t ∧ t.heap[q]? = some ce ∧ ce.vm = .none ∧ A.U.vm.findClass E = some ce.cls ∧ B.locs = A.locs ++ L ∧ (∀ z ∈ L, free z.base) ∧ B.cells = A.cells + mc ∧ B.slots = A.slots + ms
def vx_Back (l : Launch) (R : Room) (p : Program) (e : Env) (below : List Frame) (s : State) (sargs : Array Value) (y : MethodName) (len W9 : Nat)
    (Pre : Pt → Array Value → Prop) (Post : Pt → Array Value → Option Value → Pt → Prop) (PostX : Pt → Array Value → Addr → Pt → Prop) : Prop :=
  ∀ (m : MethodId) (meth : Method) (c : Code) (A : Pt) (g : JFrame) (ig : Instr) (mk : MethodId) (a : Array Value),
    Stand p l e R s m sargs below meth c A.U A.locs A.cells A.slots → g.method = m → g.locals.size = c.maxLocals → decode c.code g.pc = .ok (ig, len) →
    2 * g.monitorRoom + (g.stack.map fun v => v.category).sum ≤ W9 → A.U.methodNamed? y = some mk → Pre A a →
    (∃ (v : Option Value) (B : Pt), Stand p l e R s m sargs below meth c B.U B.locs B.cells B.slots ∧ Post A a v B ∧
      Steps p.tables e below (doInvoke e (A.U.setTop g) [] mk a).1 (B.U.setTop { g with pc := g.pc + len, stack := v.toList ++ g.stack })) ∨
    (∃ (q : Addr) (B : Pt), Stand p l e R s m sargs below meth c B.U B.locs B.cells B.slots ∧ PostX A a q B ∧
      Steps p.tables e below (doInvoke e (A.U.setTop g) [] mk a).1 ((B.U.setTop g).pushFrame (.throwing q)))
section Payer
variable {l : Launch} {R : Room} {p : Program} {e : Env} {below : List Frame} {s : State} {sargs : Array Value} {y : MethodName} {len W9 : Nat}
theorem vx_back {ws : List Cond} {rm : Room} {Pc : Array Value → State → Prop} {Qc : Array Value → State → Outcome → State → Prop} {XC : String → State → State → Prop} {mc ms : Nat} {free : Addr → Prop} {bytes : ByteArray} {maxL : Nat} {ret : Option FieldType}
    (hM : vx_Met l y ws rm Pc Qc XC mc ms free) (hblind : FrameBlind Pc) (hrc : rm.cells = mc) (hrs : rm.slots = ms)
    (hframes : rm.frames + 1 ≤ R.frames) (hlocals : W9 + (maxL + 11) + rm.locals ≤ R.locals)
    (hws : ∀ w ∈ ws, ∀ a' U, s.WarmedH U.vm → w.before a' U = true) (hcode : Cond.code y bytes maxL ret ∈ ws) (hinit : ∀ a' U, s.WarmedH U.vm → (Cond.initialized y.cls).before a' U = true) :
    vx_Back l R p e below s sargs y len W9 (PreOf R mc ms Pc) (PostOf Qc mc ms free) (vx_Post XC mc ms free) := by
  intro m meth c A g ig mk a X hg hsize hdg hW hn hp
  have h1 : (headSpec ws rm).pre.before a A.U = true := atoms_intro fun w hw => hws w hw _ _ X.warmed
  have h2 : (Cond.code y bytes maxL ret).before a A.U = true := hws _ hcode _ _ X.warmed
  have h3 : (Cond.initialized y.cls).before a A.U = true := hinit _ _ X.warmed
  have h4 : A.cells + (headSpec ws rm).room.cells ≤ R.cells := by rw [show (headSpec ws rm).room.cells = mc from hrc]; exact hp.1
  have h5 : A.slots + (headSpec ws rm).room.slots ≤ R.slots := by rw [show (headSpec ws rm).room.slots = ms from hrs]; exact hp.2.1
  have hPc : Pc a (A.U.calling g mk a) := hblind _ _ _ _ hp.2.2
  obtain ⟨U, Ls, c0, s0⟩ := A
  dsimp only [Pt.U, Pt.locs, Pt.cells, Pt.slots] at h1 h2 h3 h4 h5 X hn hPc ⊢
  obtain ⟨methY, cY, hmY, hcY, -, hlY, -, -, -, -⟩ := Cond.code_spec hn h2
  obtain ⟨kY, hkY, -⟩ := className_of_methodNamed hn
  have hinitY : kY.init = .initialized := Cond.initialized_spec (findClass_of_methodNamed hn) hkY h3
  have h : At U g.method c below := by rw [hg]; exact X.here
  have hlocals9 : W9 + (maxL + 11) + (headSpec ws rm).room.locals ≤ R.locals := hlocals
  have happ : (headSpec ws rm).appliesLoose y e.platform (U.calling g mk a) = true :=
    Spec.appliesLoose_calling (g := g) h hdg hn hkY hinitY
      (X.room_calling (g := g) (R' := (headSpec ws rm).room) hsize hmY hcY hframes (by rw [hlY]; omega) h4 h5) h1
  obtain ⟨mid, hmid⟩ := h.above
  have hfr : (U.setTop g).frames = (.java g :: mid) ++ below := by rw [State.frames_setTop' g h.top, hmid]; rfl
  obtain ⟨o, s₂, hsteps, -, hend, hq⟩ := Steps.callFree hM p X.admits X.cas X.clock (acts := []) hfr happ hPc trivial
  have hq' : vx_Q Qc XC mc ms free a (U.calling g mk a) o s₂ := hq
  rw [State.frames_setTop' g h.top] at hend
  obtain ⟨g₀, hg0⟩ := Option.isSome_iff_exists.mp h.top
  obtain ⟨r, hr⟩ := State.topJava?_eq_some.mp hg0
  have hr' : (({ U with heap := s₂.heap, slotsUsed := s₂.slotsUsed } : State).setVm s₂.vm).frames = .java g₀ :: r := hr
  rcases hq' with ⟨hqc, L, hfe, hL⟩ | ⟨q, rfl, E, ce, L, hx, hce, hcv, hcl, hW₂, hsm, hL⟩
  · obtain ⟨⟨v, rfl⟩, hW₂, e2, q2, q3, q4, q5, q6⟩ := id hfe
    have e3 : s₂ = ({ (U.calling g mk a).setFrames s₂.frames with heap := s₂.heap, slotsUsed := s₂.slotsUsed } : State).setVm s₂.vm := by
      have : s₂ = ({ s₂ with vm := (U.calling g mk a).vm } : State).setVm s₂.vm := rfl
      rw [e2] at this
      exact this
    obtain ⟨c₂, i₂, len₂, hc₂, hd₂, hf₂⟩ := hend
    have hW' : U.WarmedH s₂.vm := hW₂
    have hcc : c₂ = c := by
      have h1 : s₂.code? g.method = U.code? g.method := by
        rw [State.code?_eq, State.code?_eq, hW'.alike.method?]
      exact Option.some.inj (hc₂.symm.trans (h1.trans h.code))
    subst hcc
    have hlen : len₂ = len := by rw [hdg] at hd₂; cases hd₂; rfl
    subst hlen
    have hs₂ : s₂ = (({ U with heap := s₂.heap, slotsUsed := s₂.slotsUsed } : State).setVm s₂.vm).setTop { g with pc := g.pc + len₂, stack := v.toList ++ g.stack } := by
      refine e3.trans ?_
      rw [hf₂, State.calling_eq h.top, State.setFrames_setFrames, State.setTop_of_frames _ hr', hr]
      rfl
    have hsame : U.sameButNew ({ U with heap := s₂.heap, slotsUsed := s₂.slotsUsed } : State) L mc ms := by
      refine ⟨?_, q2, q3, q4, q5, q6⟩
      obtain ⟨t, ht, -⟩ := State.frames_cons hr
      show ({ U with heap := s₂.heap, slotsUsed := s₂.slotsUsed } : State) = { U.setFrames U.frames with heap := s₂.heap, slotsUsed := s₂.slotsUsed }
      rw [State.setFrames_self ht]
    subst hg
    refine Or.inl ⟨v, ⟨(({ U with heap := s₂.heap, slotsUsed := s₂.slotsUsed } : State).setVm s₂.vm), Ls ++ L, c0 + mc, s0 + ms⟩,
      ⟨X.admits, X.cas, X.clock, X.frames, X.room, X.hears, X.method, X.code, (X.here.setHeapUsed s₂.heap s₂.slotsUsed).setVm hW'.alike, X.tail, State.WarmedH.trans X.warmed hW', X.limits, X.bytes, X.same.trans (hsame.setVm s.vm)⟩,
      ⟨g, mk, s₂, L, rfl, rfl, hqc, rfl, hL, rfl, rfl⟩, ?_⟩
    show Steps p.tables e below _ ((({ U with heap := s₂.heap, slotsUsed := s₂.slotsUsed } : State).setVm s₂.vm).setTop { g with pc := g.pc + len₂, stack := v.toList ++ g.stack })
    rw [← hs₂]
    exact hsteps
  · obtain ⟨e2, q2, q3, q4, q5, q6⟩ := id hsm
    have e3 : s₂ = ({ (U.calling g mk a).setFrames s₂.frames with heap := s₂.heap, slotsUsed := s₂.slotsUsed } : State).setVm s₂.vm := by
      have : s₂ = ({ s₂ with vm := (U.calling g mk a).vm } : State).setVm s₂.vm := rfl
      rw [e2] at this
      exact this
    have hf₂ : s₂.frames = .throwing q :: .java g :: U.frames.tail := hend
    have hW' : U.WarmedH s₂.vm := hW₂
    have hs₂ : s₂ = ((({ U with heap := s₂.heap, slotsUsed := s₂.slotsUsed } : State).setVm s₂.vm).setTop g).pushFrame (.throwing q) := by
      refine e3.trans ?_
      rw [hf₂, State.calling_eq h.top, State.setFrames_setFrames, State.pushFrame, State.frames_setTop _ hr', State.setTop_of_frames _ hr', State.setFrames_setFrames, hr]
      rfl
    have hsame : U.sameButNew ({ U with heap := s₂.heap, slotsUsed := s₂.slotsUsed } : State) L mc ms := by
      refine ⟨?_, q2, q3, q4, q5, q6⟩
      obtain ⟨t, ht, -⟩ := State.frames_cons hr
      show ({ U with heap := s₂.heap, slotsUsed := s₂.slotsUsed } : State) = { U.setFrames U.frames with heap := s₂.heap, slotsUsed := s₂.slotsUsed }
      rw [State.setFrames_self ht]
    subst hg
    refine Or.inr ⟨q, ⟨(({ U with heap := s₂.heap, slotsUsed := s₂.slotsUsed } : State).setVm s₂.vm), Ls ++ L, c0 + mc, s0 + ms⟩,
      ⟨X.admits, X.cas, X.clock, X.frames, X.room, X.hears, X.method, X.code, (X.here.setHeapUsed s₂.heap s₂.slotsUsed).setVm hW'.alike, X.tail, State.WarmedH.trans X.warmed hW', X.limits, X.bytes, X.same.trans (hsame.setVm s.vm)⟩,
      ⟨g, mk, s₂, L, E, ce, rfl, rfl, hx, hce, hcv, hcl, rfl, hL, rfl, rfl⟩, ?_⟩
    show Steps p.tables e below _ (((({ U with heap := s₂.heap, slotsUsed := s₂.slotsUsed } : State).setVm s₂.vm).setTop g).pushFrame (.throwing q))
    rw [← hs₂]
    exact hsteps
end Payer
section Calls
variable {p : Program} {l : Launch} {e : Env} {R : Room} {s : State} {m : MethodId} {args : Array Value} {below : List Frame} {meth : Method} {c : Code} {T : State} {locs : List Loc} {cells slots : Nat}
theorem vx_callV (X : Stand p l e R s m args below meth c T locs cells slots) (hexec : p.tables.exec = Jvm.exec) {own C : String} {index : Nat} {y : MethodName} {bytes : ByteArray} {maxL : Nat} {ret : Option FieldType}
    (hown : s.vm.findClass own = some m.cls) (hlink : (Cond.methodLink own index y).before args s = true) (hinst : (Cond.instanceMethod y).before args s = true) (hsel : (Cond.selects C y y).before args s = true)
    (hcode : (Cond.code y bytes maxL ret).before args s = true) (hy : y.cls ≠ "java/lang/invoke/MethodHandle" ∧ y.cls ≠ "java/lang/invoke/VarHandle")
    {W9 : Nat} {Pre : Pt → Array Value → Prop} {Post : Pt → Array Value → Option Value → Pt → Prop} {PostX : Pt → Array Value → Addr → Pt → Prop} (hK : vx_Back l R p e below s args y 3 W9 Pre Post PostX)
    {b : Addr} {cellB : Cell} (hcell : T.heap[b]? = some cellB) (hobj : cellB.vm.isStatics = false) (hcls : s.vm.findClass C = some cellB.cls)
    {g : JFrame} (hg : g.method = m) (hsize : g.locals.size = c.maxLocals) {argsL rest : List Value} (hlen : ∀ sig, parseMethodDescriptor y.desc = some sig → argsL.length = sig.parameters.length)
    (hstack : g.stack = argsL.reverse ++ .ref b :: rest) (hW : 2 * g.monitorRoom + (rest.map fun v => v.category).sum ≤ W9) (hdg : decode c.code g.pc = .ok (.invokevirtual index, 3))
    (hpre : ∀ vm₁, s.WarmedH vm₁ → Pre ⟨T.setVm vm₁, locs, cells, slots⟩ (Value.ref b :: argsL).toArray) :
    (∃ (v : Option Value) (vm₁ : Vm) (B : Pt), s.WarmedH vm₁ ∧ Stand p l e R s m args below meth c B.U B.locs B.cells B.slots ∧ Post ⟨T.setVm vm₁, locs, cells, slots⟩ (Value.ref b :: argsL).toArray v B ∧
      ∀ target, Steps p.tables e below (B.U.setTop { g with pc := g.pc + 3, stack := v.toList ++ rest }) target → Steps p.tables e below (T.setTop g) target) ∨
    (∃ (q : Addr) (vm₁ : Vm) (B : Pt), s.WarmedH vm₁ ∧ Stand p l e R s m args below meth c B.U B.locs B.cells B.slots ∧ PostX ⟨T.setVm vm₁, locs, cells, slots⟩ (Value.ref b :: argsL).toArray q B ∧
      Steps p.tables e below (T.setTop g) ((B.U.setTop { g with stack := rest }).pushFrame (.throwing q))) := by
  obtain ⟨mk, methM, hnamed, hmethM, hstM, habM⟩ := Cond.instanceMethod_spec hinst
  obtain ⟨methM', cM, hmethM', -, -, -, -, -, -, hsigM⟩ := Cond.code_spec hnamed hcode
  cases hmethM.symm.trans hmethM'
  obtain ⟨c2, r2, m2, q1, q2, q3, q4, kP, hkP, hkPi⟩ := Cond.selects_spec hsel
  cases hcls.symm.trans q1
  cases (State.methodFound?_of_named hnamed hy).symm.trans q2
  cases hnamed.symm.trans q3
  have hselP : selectMethod e.platform s.vm cellB.cls mk = .method mk := by rw [Launch.admits_selectMethod X.admits]; exact q4
  obtain ⟨vm₁, X₁, hstep₁⟩ := X.invokevirtual hexec hown hlink hnamed hmethM hstM hkP hkPi hy (a := b) (cell := cellB) hcell
    (fun z h => by rw [h] at hobj; cases hobj) hselP hmethM habM hkP hkPi (g := g) hg (argsL := argsL) (rest := rest) (hlen _ hsigM) hstack hdg
  rcases hK m meth c ⟨T.setVm vm₁, locs, cells, slots⟩ { g with stack := rest } (.invokevirtual index) mk (Value.ref b :: argsL).toArray X₁ hg hsize hdg hW (X₁.named hnamed) (hpre vm₁ X₁.warmed) with ⟨v, B, X', hpost, hsteps⟩ | ⟨q, B, X', hpost, hsteps⟩
  · exact Or.inl ⟨v, vm₁, B, X₁.warmed, X', hpost, fun target h => hstep₁ _ fun acts => by rw [doInvoke_state]; exact hsteps.trans h⟩
  · exact Or.inr ⟨q, vm₁, B, X₁.warmed, X', hpost, hstep₁ _ fun acts => by rw [doInvoke_state]; exact hsteps⟩
theorem vx_callS (X : Stand p l e R s m args below meth c T locs cells slots) (hexec : p.tables.exec = Jvm.exec) {own : String} {index : Nat} {y : MethodName} {bytes : ByteArray} {maxL : Nat} {ret : Option FieldType}
    (hown : s.vm.findClass own = some m.cls) (hlink : (Cond.methodLink own index y).before args s = true) (hstat : (Cond.static y).before args s = true) (hinit : (Cond.initialized y.cls).before args s = true)
    (hcode : (Cond.code y bytes maxL ret).before args s = true) (hy : y.cls ≠ "java/lang/invoke/MethodHandle" ∧ y.cls ≠ "java/lang/invoke/VarHandle")
    {W9 : Nat} {Pre : Pt → Array Value → Prop} {Post : Pt → Array Value → Option Value → Pt → Prop} {PostX : Pt → Array Value → Addr → Pt → Prop} (hK : vx_Back l R p e below s args y 3 W9 Pre Post PostX)
    {g : JFrame} (hg : g.method = m) (hsize : g.locals.size = c.maxLocals) {argsL rest : List Value} (hlen : ∀ sig, parseMethodDescriptor y.desc = some sig → argsL.length = sig.parameters.length)
    (hstack : g.stack = argsL.reverse ++ rest) (hW : 2 * g.monitorRoom + (rest.map fun v => v.category).sum ≤ W9) (hdg : decode c.code g.pc = .ok (.invokestatic index, 3))
    (hpre : ∀ vm₁, s.WarmedH vm₁ → Pre ⟨T.setVm vm₁, locs, cells, slots⟩ argsL.toArray) :
    (∃ (v : Option Value) (vm₁ : Vm) (B : Pt), s.WarmedH vm₁ ∧ Stand p l e R s m args below meth c B.U B.locs B.cells B.slots ∧ Post ⟨T.setVm vm₁, locs, cells, slots⟩ argsL.toArray v B ∧
      ∀ target, Steps p.tables e below (B.U.setTop { g with pc := g.pc + 3, stack := v.toList ++ rest }) target → Steps p.tables e below (T.setTop g) target) ∨
    (∃ (q : Addr) (vm₁ : Vm) (B : Pt), s.WarmedH vm₁ ∧ Stand p l e R s m args below meth c B.U B.locs B.cells B.slots ∧ PostX ⟨T.setVm vm₁, locs, cells, slots⟩ argsL.toArray q B ∧
      Steps p.tables e below (T.setTop g) ((B.U.setTop { g with stack := rest }).pushFrame (.throwing q))) := by
  obtain ⟨mk, hnamed⟩ := Cond.code_named hcode
  obtain ⟨methM, cM, hmethM, -, -, -, -, -, -, hsigM⟩ := Cond.code_spec hnamed hcode
  have hstatic : methM.isStatic = true := Cond.static_spec hnamed hmethM hstat
  obtain ⟨kP, hkP, -⟩ := className_of_methodNamed hnamed
  have hinitP : kP.init = .initialized := Cond.initialized_spec (findClass_of_methodNamed hnamed) hkP hinit
  obtain ⟨vm₁, X₁, hstep₁⟩ := X.invokestatic hexec hown hlink hnamed hmethM hstatic hkP hinitP hy (g := g) hg (argsL := argsL) (rest := rest) (hlen _ hsigM) hstack hdg
  rcases hK m meth c ⟨T.setVm vm₁, locs, cells, slots⟩ { g with stack := rest } (.invokestatic index) mk argsL.toArray X₁ hg hsize hdg hW (X₁.named hnamed) (hpre vm₁ X₁.warmed) with ⟨v, B, X', hpost, hsteps⟩ | ⟨q, B, X', hpost, hsteps⟩
  · exact Or.inl ⟨v, vm₁, B, X₁.warmed, X', hpost, fun target h => hstep₁ _ fun acts => by rw [doInvoke_state]; exact hsteps.trans h⟩
  · exact Or.inr ⟨q, vm₁, B, X₁.warmed, X', hpost, hstep₁ _ fun acts => by rw [doInvoke_state]; exact hsteps⟩
end Calls
theorem vx_cls {s : State} {T : State} {vm₁ : Vm} {E : String} {k : ClassId} (hW : s.WarmedH vm₁) (h : (T.setVm vm₁).vm.findClass E = some k) : s.vm.findClass E = some k := by
  have h1 : vm₁.findClass E = some k := h
  rw [hW.alike.findClass] at h1
  exact h1
def vx_W (p : Program) (l : Launch) (e : Env) (R : Room) (s : State) (m : MethodId) (args : Array Value) (below : List Frame) (meth : Method) (c : Code) (H : Heap) (locs : List Loc) (cells slots : Nat) (Q : State → Prop) (g : JFrame) (q : Addr) : Prop :=
  ∀ T : State, T.heap = H → Stand p l e R s m args below meth c T locs cells slots → ∃ t, Steps p.tables e below ((T.setTop g).pushFrame (.throwing q)) t ∧ Q t
def vx_Run (p : Program) (l : Launch) (e : Env) (R : Room) (s : State) (m : MethodId) (args : Array Value) (below : List Frame) (meth : Method) (c : Code) (H : Heap) (locs : List Loc) (cells slots mc ms : Nat) (g : JFrame) (rest : List Value) (Qa : State → Outcome → State → Prop) (XC : String → State → State → Prop) (free : Addr → Prop) : Prop :=
  ∀ T : State, T.heap = H → Stand p l e R s m args below meth c T locs cells slots →
    (∃ (v : Option Value) (st₀ t T' : State) (L : List Loc), st₀.heap = H ∧ Stand p l e R s m args below meth c T' (locs ++ L) (cells + mc) (slots + ms) ∧ (∀ q ∈ L, free q.base) ∧ T'.heap = t.heap ∧ T'.vm = t.vm ∧ Qa st₀ (.returned v) t ∧
      Goes p e below T g T' { g with pc := g.pc + 3, stack := v.toList ++ rest }) ∨
    (∃ (q : Addr) (st₀ t T' : State) (L : List Loc) (E : String) (ce : Cell), st₀.heap = H ∧ Stand p l e R s m args below meth c T' (locs ++ L) (cells + mc) (slots + ms) ∧ (∀ z ∈ L, free z.base) ∧ T'.heap = t.heap ∧ T'.vm = t.vm ∧ XC E st₀ t ∧ t.heap[q]? = some ce ∧ ce.vm = .none ∧ s.vm.findClass E = some ce.cls ∧
      Steps p.tables e below (T.setTop g) ((T'.setTop { g with stack := rest }).pushFrame (.throwing q)))
def vx_X {S : Type} (px : S → Prop) (B : String → S → State → Prop) (A : Nat → Prop) : String → State → State → Prop := fun E st t => ∃ u : S, px u ∧ B E u t ∧ va_F A st t
section Runs
variable {p : Program} {l : Launch} {e : Env} {R : Room} {s : State} {m : MethodId} {args : Array Value} {below : List Frame} {meth : Method} {c : Code} {H : Heap} {locs : List Loc} {cells slots : Nat}
variable {y : MethodName} {bytes cc : ByteArray} {maxL nL mc ms n index : Nat} {ret : Option FieldType} {ws : List Cond} {rm : Room} {Pc : Array Value → State → Prop} {Qc : Array Value → State → Outcome → State → Prop} {XC : String → State → State → Prop} {free : Addr → Prop} {Ts : List Cond} {own C : String} {b : Addr} {As rest : List Value} {g : JFrame}
theorem vx_callBack (cb : CallB R s args own index y bytes maxL ret ws rm mc ms n) (hM : vx_Met l y ws rm Pc Qc XC mc ms free) (hbl : FrameBlind Pc) : vx_Back l R p e below s args y 3 8 (PreOf R mc ms Pc) (PostOf Qc mc ms free) (vx_Post XC mc ms free) := by
  obtain ⟨hrc, hrs, hfr, hlo, hws, hcw, -, hini, -⟩ := cb
  exact vx_back (bytes := bytes) (maxL := maxL) (ret := ret) hM hbl hrc hrs hfr hlo hws hcw (fun a' U hW => word_at hW (Or.inl (by first | rfl | simp [Cond.onTables, Cond.keeps, Cond.steady])) hini)
theorem vx_runV (S : CallFix p m c cc nL s args Ts own) (hM : vx_Met l y ws rm Pc Qc XC mc ms free) (cw : CallW R s args own C index y bytes maxL ret ws rm mc ms n) (hp : PreV s H C b Pc As)
    (hg : g.method = m) (hn : As.length = n) (hsize : g.locals.size = nL) (hstack : g.stack = As.reverse ++ .ref b :: rest) (hW : 2 * g.monitorRoom + (rest.map fun v => v.category).sum ≤ 8) (hdg : decode cc g.pc = .ok (.invokevirtual index, 3)) (hf : cells + mc ≤ R.cells ∧ slots + ms ≤ R.slots) :
    vx_Run p l e R s m args below meth c H locs cells slots mc ms g rest (Qc (Value.ref b :: As).toArray) XC free := by
  have hK : vx_Back l R p e below s args y 3 8 (PreOf R mc ms Pc) (PostOf Qc mc ms free) (vx_Post XC mc ms free) := vx_callBack cw.1 hM hp.1
  obtain ⟨⟨-, -, -, -, -, -, hcode, -, hy, hlen, hl⟩, hin, hse⟩ := cw
  obtain ⟨hx, hb, hml, ho, -⟩ := S
  obtain ⟨-, ⟨cellB, hcB, hoB, hclB⟩, hPc⟩ := hp
  intro T hT X
  rcases vx_callV X hx (C := C) (bytes := bytes) (maxL := maxL) (ret := ret) ho hl hin hse hcode hy hK (by rw [hT]; exact hcB) hoB hclB hg (hsize.trans hml.symm) (argsL := As) (rest := rest) (fun sig h => hn.trans (hlen sig h)) hstack hW (by rw [hb]; exact hdg)
    (fun vm₁ hW₁ => ⟨hf.1, hf.2, hPc (T.setVm vm₁) hT hW₁⟩) with ⟨v, vm₁, ⟨U', l2, c2, s2⟩, hW₁, X', ⟨g', mk, t, L, e1, e2, hq, h1, hL, h2, h3⟩, st⟩ | ⟨q, vm₁, ⟨U', l2, c2, s2⟩, hW₁, X', ⟨g', mk, t, L, E, ce, e1, e2, hq, hce, hcv, hcl, h1, hL, h2, h3⟩, st⟩
  · dsimp only [Pt.U, Pt.locs, Pt.cells, Pt.slots] at X' e1 e2 h1 h2 h3 st
    subst h1; subst h2; subst h3
    exact Or.inl ⟨v, (T.setVm vm₁).calling g' mk (Value.ref b :: As).toArray, t, U', L, hT, X', hL, e1, e2, hq, st⟩
  · dsimp only [Pt.U, Pt.locs, Pt.cells, Pt.slots] at X' e1 e2 h1 h2 h3 st hcl
    subst h1; subst h2; subst h3
    exact Or.inr ⟨q, (T.setVm vm₁).calling g' mk (Value.ref b :: As).toArray, t, U', L, E, ce, hT, X', hL, e1, e2, hq, hce, hcv, vx_cls hW₁ hcl, st⟩
theorem vx_runS (S : CallFix p m c cc nL s args Ts own) (hM : vx_Met l y ws rm Pc Qc XC mc ms free) (cw : CallB R s args own index y bytes maxL ret ws rm mc ms n ∧ (Cond.static y).before args s = true) (hp : PreS s H Pc As)
    (hg : g.method = m) (hn : As.length = n) (hsize : g.locals.size = nL) (hstack : g.stack = As.reverse ++ rest) (hW : 2 * g.monitorRoom + (rest.map fun v => v.category).sum ≤ 8) (hdg : decode cc g.pc = .ok (.invokestatic index, 3)) (hf : cells + mc ≤ R.cells ∧ slots + ms ≤ R.slots) :
    vx_Run p l e R s m args below meth c H locs cells slots mc ms g rest (Qc As.toArray) XC free := by
  have hK : vx_Back l R p e below s args y 3 8 (PreOf R mc ms Pc) (PostOf Qc mc ms free) (vx_Post XC mc ms free) := vx_callBack cw.1 hM hp.1
  obtain ⟨⟨-, -, -, -, -, -, hcode, hini, hy, hlen, hl⟩, hstt⟩ := cw
  obtain ⟨hx, hb, hml, ho, -⟩ := S
  intro T hT X
  rcases vx_callS X hx (bytes := bytes) (maxL := maxL) (ret := ret) ho hl hstt hini hcode hy hK hg (hsize.trans hml.symm) (argsL := As) (rest := rest) (fun sig h => hn.trans (hlen sig h)) hstack hW (by rw [hb]; exact hdg)
    (fun vm₁ hW₁ => ⟨hf.1, hf.2, hp.2 (T.setVm vm₁) hT hW₁⟩) with ⟨v, vm₁, ⟨U', l2, c2, s2⟩, hW₁, X', ⟨g', mk, t, L, e1, e2, hq, h1, hL, h2, h3⟩, st⟩ | ⟨q, vm₁, ⟨U', l2, c2, s2⟩, hW₁, X', ⟨g', mk, t, L, E, ce, e1, e2, hq, hce, hcv, hcl, h1, hL, h2, h3⟩, st⟩
  · dsimp only [Pt.U, Pt.locs, Pt.cells, Pt.slots] at X' e1 e2 h1 h2 h3 st
    subst h1; subst h2; subst h3
    exact Or.inl ⟨v, (T.setVm vm₁).calling g' mk As.toArray, t, U', L, hT, X', hL, e1, e2, hq, st⟩
  · dsimp only [Pt.U, Pt.locs, Pt.cells, Pt.slots] at X' e1 e2 h1 h2 h3 st hcl
    subst h1; subst h2; subst h3
    exact Or.inr ⟨q, (T.setVm vm₁).calling g' mk As.toArray, t, U', L, E, ce, hT, X', hL, e1, e2, hq, hce, hcv, vx_cls hW₁ hcl, st⟩
end Runs
section Rows
variable {p : Program} {l : Launch} {e : Env} {R : Room} {s : State} {m : MethodId} {args : Array Value} {below : List Frame} {meth : Method} {c : Code} {H : Heap} {locs : List Loc} {cells slots : Nat} {Q : State → Prop}
variable {mc ms : Nat} {free : Addr → Prop} {A0 A1 : Nat → Prop} {H0 : Heap} {a : Array Value} {pc : Nat} {ls : Array Slot} {st0 rest : List Value}
theorem vx_keep {st₀ t T' : State} {L : List Loc} (h0 : st₀.heap = H) (e1 : T'.heap = t.heap) (hS : va_S A0 H0 H locs) (hA : ∀ q, q < H.size → A1 q → A0 q) (hf : ∀ q, free q → A0 q) (hL : ∀ q ∈ L, free q.base) (hF : va_F A1 st₀ t) :
    H.size ≤ T'.heap.size ∧ (∀ q : Nat, q < H.size → ¬ A1 q → T'.heap[q]? = H[q]?) ∧ va_S A0 H0 T'.heap (locs ++ L) := by
  obtain ⟨hz, hk⟩ := hF
  rw [h0] at hz hk
  exact ⟨by rw [e1]; exact hz, fun q h1 h2 => by rw [e1]; exact hk q h1 h2,
    ⟨Nat.le_trans hS.1 (by rw [e1]; exact hz), fun q h1 h2 => by rw [e1, hk q (Nat.lt_of_lt_of_le h1 hS.1) (fun z => h2 (hA q (Nat.lt_of_lt_of_le h1 hS.1) z))]; exact hS.2.1 q h1 h2, fun q hq => by
      rcases List.mem_append.mp hq with h | h
      · exact hS.2.2 q h
      · exact hf _ (hL q h)⟩⟩
theorem vx_calli {S SX : Type} {post : Int32 → S → Prop} {px : SX → Prop} {B : S → State → Prop} {BX : String → SX → State → Prop} {AX : Nat → Prop} (hr : vx_Run p l e R s m args below meth c H locs cells slots mc ms (F0 m pc ls st0) rest (va_Qi post B A1 a) (vx_X px BX AX) free) (hS : va_S A0 H0 H locs) (hA : ∀ q, q < H.size → A1 q → A0 q) (hf : ∀ q, free q → A0 q) (hAX : ∀ q, q < H.size → AX q → A0 q)
    (kx : ∀ (E : String) (ce : Cell) (q9 : Addr) (u : SX) (t : State) (H1 : Heap) (locs1 : List Loc), t.heap = H1 → s.vm.Alike t.vm → px u → BX E u t → H.size ≤ H1.size → (∀ q : Nat, q < H.size → ¬ AX q → H1[q]? = H[q]?) → va_S A0 H0 H1 locs1 → H1[q9]? = some ce → ce.vm = .none → s.vm.findClass E = some ce.cls → vx_W p l e R s m args below meth c H1 locs1 (cells + mc) (slots + ms) Q (F0 m pc ls rest) q9)
    (kk : ∀ (r : Int32) (u : S) (t : State) (H1 : Heap) (locs1 : List Loc), t.heap = H1 → s.vm.Alike t.vm → post r u → B u t → H.size ≤ H1.size → (∀ q : Nat, q < H.size → ¬ A1 q → H1[q]? = H[q]?) → va_S A0 H0 H1 locs1 → W p l e R s m args below meth c H1 locs1 (cells + mc) (slots + ms) Q (F0 m (pc + 3) ls (.int r :: rest))) : W p l e R s m args below meth c H locs cells slots Q (F0 m pc ls st0) := by
  intro T hT X
  rcases hr T hT X with ⟨v, st₀, t, T', L, h0, X', hL, e1, e2, ⟨⟨r, u, hv, hp, hb⟩, hF⟩, st⟩ | ⟨q, st₀, t, T', L, E, ce, h0, X', hL, e1, e2, ⟨u, hp, hb, hF⟩, hce, hcv, hcl, st⟩
  · cases hv
    obtain ⟨k1, k2, k3⟩ := vx_keep h0 e1 hS hA hf hL hF
    obtain ⟨t2, a1, b1⟩ := kk r u t T'.heap (locs ++ L) e1.symm (by rw [← e2]; exact X'.warmed.alike) hp hb k1 k2 k3 T' rfl X'
    exact ⟨t2, st t2 a1, b1⟩
  · obtain ⟨k1, k2, k3⟩ := vx_keep h0 e1 hS hAX hf hL hF
    obtain ⟨t2, a1, b1⟩ := kx E ce q u t T'.heap (locs ++ L) e1.symm (by rw [← e2]; exact X'.warmed.alike) hp hb k1 k2 k3 (by rw [e1]; exact hce) hcv hcl T' rfl X'
    exact ⟨t2, st.trans a1, b1⟩
theorem vx_calll {S SX : Type} {post : Int64 → S → Prop} {px : SX → Prop} {B : S → State → Prop} {BX : String → SX → State → Prop} {AX : Nat → Prop} (hr : vx_Run p l e R s m args below meth c H locs cells slots mc ms (F0 m pc ls st0) rest (va_Ql post B A1 a) (vx_X px BX AX) free) (hS : va_S A0 H0 H locs) (hA : ∀ q, q < H.size → A1 q → A0 q) (hf : ∀ q, free q → A0 q) (hAX : ∀ q, q < H.size → AX q → A0 q)
    (kx : ∀ (E : String) (ce : Cell) (q9 : Addr) (u : SX) (t : State) (H1 : Heap) (locs1 : List Loc), t.heap = H1 → s.vm.Alike t.vm → px u → BX E u t → H.size ≤ H1.size → (∀ q : Nat, q < H.size → ¬ AX q → H1[q]? = H[q]?) → va_S A0 H0 H1 locs1 → H1[q9]? = some ce → ce.vm = .none → s.vm.findClass E = some ce.cls → vx_W p l e R s m args below meth c H1 locs1 (cells + mc) (slots + ms) Q (F0 m pc ls rest) q9)
    (kk : ∀ (r : Int64) (u : S) (t : State) (H1 : Heap) (locs1 : List Loc), t.heap = H1 → s.vm.Alike t.vm → post r u → B u t → H.size ≤ H1.size → (∀ q : Nat, q < H.size → ¬ A1 q → H1[q]? = H[q]?) → va_S A0 H0 H1 locs1 → W p l e R s m args below meth c H1 locs1 (cells + mc) (slots + ms) Q (F0 m (pc + 3) ls (.long r :: rest))) : W p l e R s m args below meth c H locs cells slots Q (F0 m pc ls st0) := by
  intro T hT X
  rcases hr T hT X with ⟨v, st₀, t, T', L, h0, X', hL, e1, e2, ⟨⟨r, u, hv, hp, hb⟩, hF⟩, st⟩ | ⟨q, st₀, t, T', L, E, ce, h0, X', hL, e1, e2, ⟨u, hp, hb, hF⟩, hce, hcv, hcl, st⟩
  · cases hv
    obtain ⟨k1, k2, k3⟩ := vx_keep h0 e1 hS hA hf hL hF
    obtain ⟨t2, a1, b1⟩ := kk r u t T'.heap (locs ++ L) e1.symm (by rw [← e2]; exact X'.warmed.alike) hp hb k1 k2 k3 T' rfl X'
    exact ⟨t2, st t2 a1, b1⟩
  · obtain ⟨k1, k2, k3⟩ := vx_keep h0 e1 hS hAX hf hL hF
    obtain ⟨t2, a1, b1⟩ := kx E ce q u t T'.heap (locs ++ L) e1.symm (by rw [← e2]; exact X'.warmed.alike) hp hb k1 k2 k3 (by rw [e1]; exact hce) hcv hcl T' rfl X'
    exact ⟨t2, st.trans a1, b1⟩
theorem vx_callf {S SX : Type} {post : UInt32 → S → Prop} {px : SX → Prop} {B : S → State → Prop} {BX : String → SX → State → Prop} {AX : Nat → Prop} (hr : vx_Run p l e R s m args below meth c H locs cells slots mc ms (F0 m pc ls st0) rest (va_Qf post B A1 a) (vx_X px BX AX) free) (hS : va_S A0 H0 H locs) (hA : ∀ q, q < H.size → A1 q → A0 q) (hf : ∀ q, free q → A0 q) (hAX : ∀ q, q < H.size → AX q → A0 q)
    (kx : ∀ (E : String) (ce : Cell) (q9 : Addr) (u : SX) (t : State) (H1 : Heap) (locs1 : List Loc), t.heap = H1 → s.vm.Alike t.vm → px u → BX E u t → H.size ≤ H1.size → (∀ q : Nat, q < H.size → ¬ AX q → H1[q]? = H[q]?) → va_S A0 H0 H1 locs1 → H1[q9]? = some ce → ce.vm = .none → s.vm.findClass E = some ce.cls → vx_W p l e R s m args below meth c H1 locs1 (cells + mc) (slots + ms) Q (F0 m pc ls rest) q9)
    (kk : ∀ (r : UInt32) (u : S) (t : State) (H1 : Heap) (locs1 : List Loc), t.heap = H1 → s.vm.Alike t.vm → post r u → B u t → H.size ≤ H1.size → (∀ q : Nat, q < H.size → ¬ A1 q → H1[q]? = H[q]?) → va_S A0 H0 H1 locs1 → W p l e R s m args below meth c H1 locs1 (cells + mc) (slots + ms) Q (F0 m (pc + 3) ls (.float r :: rest))) : W p l e R s m args below meth c H locs cells slots Q (F0 m pc ls st0) := by
  intro T hT X
  rcases hr T hT X with ⟨v, st₀, t, T', L, h0, X', hL, e1, e2, ⟨⟨r, u, hv, hp, hb⟩, hF⟩, st⟩ | ⟨q, st₀, t, T', L, E, ce, h0, X', hL, e1, e2, ⟨u, hp, hb, hF⟩, hce, hcv, hcl, st⟩
  · cases hv
    obtain ⟨k1, k2, k3⟩ := vx_keep h0 e1 hS hA hf hL hF
    obtain ⟨t2, a1, b1⟩ := kk r u t T'.heap (locs ++ L) e1.symm (by rw [← e2]; exact X'.warmed.alike) hp hb k1 k2 k3 T' rfl X'
    exact ⟨t2, st t2 a1, b1⟩
  · obtain ⟨k1, k2, k3⟩ := vx_keep h0 e1 hS hAX hf hL hF
    obtain ⟨t2, a1, b1⟩ := kx E ce q u t T'.heap (locs ++ L) e1.symm (by rw [← e2]; exact X'.warmed.alike) hp hb k1 k2 k3 (by rw [e1]; exact hce) hcv hcl T' rfl X'
    exact ⟨t2, st.trans a1, b1⟩
theorem vx_calld {S SX : Type} {post : UInt64 → S → Prop} {px : SX → Prop} {B : S → State → Prop} {BX : String → SX → State → Prop} {AX : Nat → Prop} (hr : vx_Run p l e R s m args below meth c H locs cells slots mc ms (F0 m pc ls st0) rest (va_Qd post B A1 a) (vx_X px BX AX) free) (hS : va_S A0 H0 H locs) (hA : ∀ q, q < H.size → A1 q → A0 q) (hf : ∀ q, free q → A0 q) (hAX : ∀ q, q < H.size → AX q → A0 q)
    (kx : ∀ (E : String) (ce : Cell) (q9 : Addr) (u : SX) (t : State) (H1 : Heap) (locs1 : List Loc), t.heap = H1 → s.vm.Alike t.vm → px u → BX E u t → H.size ≤ H1.size → (∀ q : Nat, q < H.size → ¬ AX q → H1[q]? = H[q]?) → va_S A0 H0 H1 locs1 → H1[q9]? = some ce → ce.vm = .none → s.vm.findClass E = some ce.cls → vx_W p l e R s m args below meth c H1 locs1 (cells + mc) (slots + ms) Q (F0 m pc ls rest) q9)
    (kk : ∀ (r : UInt64) (u : S) (t : State) (H1 : Heap) (locs1 : List Loc), t.heap = H1 → s.vm.Alike t.vm → post r u → B u t → H.size ≤ H1.size → (∀ q : Nat, q < H.size → ¬ A1 q → H1[q]? = H[q]?) → va_S A0 H0 H1 locs1 → W p l e R s m args below meth c H1 locs1 (cells + mc) (slots + ms) Q (F0 m (pc + 3) ls (.double r :: rest))) : W p l e R s m args below meth c H locs cells slots Q (F0 m pc ls st0) := by
  intro T hT X
  rcases hr T hT X with ⟨v, st₀, t, T', L, h0, X', hL, e1, e2, ⟨⟨r, u, hv, hp, hb⟩, hF⟩, st⟩ | ⟨q, st₀, t, T', L, E, ce, h0, X', hL, e1, e2, ⟨u, hp, hb, hF⟩, hce, hcv, hcl, st⟩
  · cases hv
    obtain ⟨k1, k2, k3⟩ := vx_keep h0 e1 hS hA hf hL hF
    obtain ⟨t2, a1, b1⟩ := kk r u t T'.heap (locs ++ L) e1.symm (by rw [← e2]; exact X'.warmed.alike) hp hb k1 k2 k3 T' rfl X'
    exact ⟨t2, st t2 a1, b1⟩
  · obtain ⟨k1, k2, k3⟩ := vx_keep h0 e1 hS hAX hf hL hF
    obtain ⟨t2, a1, b1⟩ := kx E ce q u t T'.heap (locs ++ L) e1.symm (by rw [← e2]; exact X'.warmed.alike) hp hb k1 k2 k3 (by rw [e1]; exact hce) hcv hcl T' rfl X'
    exact ⟨t2, st.trans a1, b1⟩
theorem vx_callv {S SX : Type} {post : S → Prop} {px : SX → Prop} {B : S → State → Prop} {BX : String → SX → State → Prop} {AX : Nat → Prop} (hr : vx_Run p l e R s m args below meth c H locs cells slots mc ms (F0 m pc ls st0) rest (va_Qv post B A1 a) (vx_X px BX AX) free) (hS : va_S A0 H0 H locs) (hA : ∀ q, q < H.size → A1 q → A0 q) (hf : ∀ q, free q → A0 q) (hAX : ∀ q, q < H.size → AX q → A0 q)
    (kx : ∀ (E : String) (ce : Cell) (q9 : Addr) (u : SX) (t : State) (H1 : Heap) (locs1 : List Loc), t.heap = H1 → s.vm.Alike t.vm → px u → BX E u t → H.size ≤ H1.size → (∀ q : Nat, q < H.size → ¬ AX q → H1[q]? = H[q]?) → va_S A0 H0 H1 locs1 → H1[q9]? = some ce → ce.vm = .none → s.vm.findClass E = some ce.cls → vx_W p l e R s m args below meth c H1 locs1 (cells + mc) (slots + ms) Q (F0 m pc ls rest) q9)
    (kk : ∀ (u : S) (t : State) (H1 : Heap) (locs1 : List Loc), t.heap = H1 → s.vm.Alike t.vm → post u → B u t → H.size ≤ H1.size → (∀ q : Nat, q < H.size → ¬ A1 q → H1[q]? = H[q]?) → va_S A0 H0 H1 locs1 → W p l e R s m args below meth c H1 locs1 (cells + mc) (slots + ms) Q (F0 m (pc + 3) ls (rest))) : W p l e R s m args below meth c H locs cells slots Q (F0 m pc ls st0) := by
  intro T hT X
  rcases hr T hT X with ⟨v, st₀, t, T', L, h0, X', hL, e1, e2, ⟨⟨u, hv, hp, hb⟩, hF⟩, st⟩ | ⟨q, st₀, t, T', L, E, ce, h0, X', hL, e1, e2, ⟨u, hp, hb, hF⟩, hce, hcv, hcl, st⟩
  · cases hv
    obtain ⟨k1, k2, k3⟩ := vx_keep h0 e1 hS hA hf hL hF
    obtain ⟨t2, a1, b1⟩ := kk u t T'.heap (locs ++ L) e1.symm (by rw [← e2]; exact X'.warmed.alike) hp hb k1 k2 k3 T' rfl X'
    exact ⟨t2, st t2 a1, b1⟩
  · obtain ⟨k1, k2, k3⟩ := vx_keep h0 e1 hS hAX hf hL hF
    obtain ⟨t2, a1, b1⟩ := kx E ce q u t T'.heap (locs ++ L) e1.symm (by rw [← e2]; exact X'.warmed.alike) hp hb k1 k2 k3 (by rw [e1]; exact hce) hcv hcl T' rfl X'
    exact ⟨t2, st.trans a1, b1⟩
theorem vx_catch {own name : String} {E : String} {ce : Cell} {q : Addr} (hown : s.vm.findClass own = some m.cls) (pre : List ExceptionTableEntry) (x : ExceptionTableEntry) (suf : List ExceptionTableEntry) (hsplit : c.exceptionTable.toList = pre ++ x :: suf)
    (hpass : ∀ z ∈ pre, covers z pc = false ∨ (z.catchType ≠ 0 ∧ ∃ nm : String, (Cond.classLink own z.catchType nm).before args s = true ∧ va_Nc E nm s)) (hx : covers x pc = true) (h0 : x.catchType ≠ 0)
    (hlink : (Cond.classLink own x.catchType name).before args s = true) (hcast : (Cond.castable E name).before args s = true) (hcell : H[q]? = some ce) (hv : ce.vm = .none) (hcl : s.vm.findClass E = some ce.cls)
    (kk : W p l e R s m args below meth c H locs cells slots Q (F0 m x.handlerPc ls [.ref q])) : vx_W p l e R s m args below meth c H locs cells slots Q (F0 m pc ls rest) q := by
  intro T hT X
  have hpl : e.platform.magicAccessors = ({} : Platform).magicAccessors := by rw [X.admits.platform]
  obtain ⟨c3, c4, hc3, hc4, hasg⟩ := Cond.castable_spec hcast
  cases Option.some.inj (hc3.symm.trans hcl)
  obtain ⟨c5, hc5, hcl5⟩ := Cond.classLink_spec hown hlink e.platform hpl
  cases Option.some.inj (hc4.symm.trans hc5)
  obtain ⟨vm', X', st⟩ := X.thenCaughtThrough q (g := F0 m pc ls rest) rfl (Steps.refl _) (by rw [hT]; exact hcell) (by rw [hv]; rfl) (by obtain ⟨k9, h9, -⟩ := Vm.findClass_spec hcl; exact ⟨k9, h9⟩) pre x suf hsplit
    (fun z hz => by
      rcases hpass z hz with h | ⟨hz0, nm, hl1, hn1⟩
      · exact Or.inl h
      · obtain ⟨c6, hc6, hcl6⟩ := Cond.classLink_spec hown hl1 e.platform hpl
        obtain ⟨a8, b8, h1, h2, h3⟩ := hn1
        cases Option.some.inj (h1.symm.trans hcl)
        cases Option.some.inj (h2.symm.trans hc6)
        exact Or.inr ⟨hz0, _, hcl6, h3⟩) hx (Or.inr ⟨h0, c4, hcl5, hasg⟩)
  obtain ⟨t, a1, b1⟩ := kk (T.setVm vm') hT X'
  exact ⟨t, st.trans a1, b1⟩
end Rows
section Ends
variable {p : Program} {l : Launch} {e : Env} {R : Room} {s : State} {m : MethodId} {args : Array Value} {below : List Frame} {meth : Method} {c : Code} {H : Heap} {locs : List Loc} {cells slots : Nat} {Q : State → Prop}
variable {mc ms : Nat} {free : Addr → Prop} {A0 A1 : Nat → Prop} {H0 : Heap} {a : Array Value} {ls : Array Slot} {st0 rest : List Value}
variable {Qc : Array Value → State → Outcome → State → Prop} {XC : String → State → State → Prop}
def vx_MQ (below : List Frame) (Qc : Array Value → State → Outcome → State → Prop) (XC : String → State → State → Prop) (a : Array Value) (s : State) (mc ms : Nat) (free : Addr → Prop) : State → Prop := fun t =>
  ∃ o, t.status = .running ∧ Ended t below o ∧ vx_Q Qc XC mc ms free a s o t
theorem vx_ret {g : JFrame} {mc ms : Nat} (k : W p l e R s m args below meth c H locs cells slots (MQ below Qc args s mc ms free) g) : W p l e R s m args below meth c H locs cells slots (vx_MQ below Qc XC args s mc ms free) g := by
  intro T hT X
  obtain ⟨t, a1, o, b1, b2, b3, b4⟩ := k T hT X
  exact ⟨t, a1, o, b1, b2, Or.inl ⟨b3, b4⟩⟩
theorem vx_widen {g : JFrame} {q : Addr} {k n : Nat} (h1 : cells ≤ k) (h2 : slots ≤ n) (kk : vx_W p l e R s m args below meth c H locs k n Q g q) : vx_W p l e R s m args below meth c H locs cells slots Q g q := fun T hT X => kk T hT (stand_widen X h1 h2)
theorem vx_out {pc : Nat} {E : String} {ce : Cell} {q : Addr} {mc ms : Nat} (hout : ∀ x ∈ c.exceptionTable.toList, covers x pc = false) (hlocks : meth.locks = false) (hcell : H[q]? = some ce) (hv : ce.vm = .none) (hcl : s.vm.findClass E = some ce.cls)
    (hx : ∀ t : State, t.heap = H → s.vm.Alike t.vm → XC E s t) (hf : ∀ z ∈ locs, free z.base) (hc : cells ≤ mc) (hs : slots ≤ ms) :
    vx_W p l e R s m args below meth c H locs cells slots (vx_MQ below Qc XC args s mc ms free) (F0 m pc ls rest) q := by
  intro T hT X
  obtain ⟨st1, hrun, hend, hW, hsm⟩ := X.leaveThrown q (g := F0 m pc ls rest) rfl rfl rfl hout hlocks
  have hcell9 : (T.setFrames (.throwing q :: below)).heap[q]? = some ce := by
    show T.heap[q]? = some ce
    rw [hT]; exact hcell
  exact ⟨_, st1, .threw q, hrun, hend, Or.inr ⟨q, rfl, E, ce, locs, hx _ hT hW.alike, hcell9, hv, hcl, hW, hsm.mono hc hs, hf⟩⟩
theorem vx_frame {U : State} {k n : Nat} (h : s.sameButNew ({ U with vm := s.vm } : State) locs k n) : s.heap.size ≤ U.heap.size ∧ ∀ q : Nat, q < s.heap.size → (∀ z ∈ locs, z.base ≠ q) → U.heap[q]? = s.heap[q]? := by
  obtain ⟨-, h2, -, -, -, h6⟩ := h
  refine ⟨h2, fun q hq hz => ?_⟩
  obtain ⟨c9, e1, e2, e3, e4⟩ := h6 q _ (Array.getElem?_eq_getElem hq)
  have hs : c9.slots = (s.heap[q]).slots := Array.ext_getElem? fun i => e4 i fun hm => hz _ hm rfl
  have h9 : c9 = s.heap[q] := by
    rw [hs] at e2
    exact e2
  have e5 : U.heap[q]? = some c9 := e1
  rw [e5, h9, Array.getElem?_eq_getElem hq]
def vx_no (w : Cond) : Bool := decide (w ≠ .isRef (.static Bundle.tN "UNASSIGNED_STACK" Bundle.steD)) && decide (w ≠ .isRef (.static Bundle.tN "SUPPRESSED_SENTINEL" Bundle.listD)) && decide (w ≠ .laysStatic Bundle.tN "UNASSIGNED_STACK" Bundle.steD) && decide (w ≠ .laysStatic Bundle.tN "SUPPRESSED_SENTINEL" Bundle.listD)
def vx_at0 (own : String) (ic : Nat) (X : String) (names : List String) : List Cond := (Bundle.ownAtoms0 own ic X names).filter vx_no
def vx_atS (own : String) (ic : Nat) (X : String) (names : List String) : List Cond := (Bundle.ownAtoms own ic X names).filter vx_no
def vx_ot (w : Cond) : Bool := w.onTables || goodWord w
theorem vx_ot_at {args a' : Array Value} {s U : State} {w : Cond} (hW : s.WarmedH U.vm) (hvm : s.vm = U.vm) (hg : vx_ot w = true) (h : w.before args s = true) : w.before a' U = true := by
  simp only [vx_ot, Bool.or_eq_true] at hg
  rcases hg with hg | hg
  · exact va_tabs hg hvm h
  · exact word_at hW (good_of_word hg) h
theorem vx_hat {args : Array Value} {s : State} {L B : List Cond} (h1 : ∀ w ∈ L.filter goodWord, w.before args s = true) (h2 : ∀ w ∈ L.filter (fun w => !goodWord w), w ∈ B) (h3 : ∀ w ∈ B, w.before args s = true) : ∀ w ∈ L, w.before args s = true := by
  intro w hw
  by_cases g : goodWord w = true
  · exact h1 w (List.mem_filter.mpr ⟨hw, g⟩)
  · refine h3 w (h2 w (List.mem_filter.mpr ⟨hw, ?_⟩))
    show (!goodWord w) = true
    cases hgw : goodWord w
    · rfl
    · exact absurd hgw g
theorem vx_c {args : Array Value} {s : State} {w : Cond} {B : List Cond} (h : w.before args s = true) (t : ∀ w ∈ B, w.before args s = true) : ∀ w' ∈ w :: B, w'.before args s = true := fun w' h' => (List.mem_cons.mp h').elim (fun e => by rw [e]; exact h) (t w')
theorem vx_n {args : Array Value} {s : State} : ∀ w ∈ ([] : List Cond), w.before args s = true := fun _ h => nomatch h
theorem vx_own {args : Array Value} {s : State} {L : List Cond} (h1 : ∀ w ∈ L.filter vx_no, w.before args s = true)
    (hU : (Cond.isRef (.static Bundle.tN "UNASSIGNED_STACK" Bundle.steD)).before args s = true) (hN : (Cond.isRef (.static Bundle.tN "SUPPRESSED_SENTINEL" Bundle.listD)).before args s = true)
    (lU : (Cond.laysStatic Bundle.tN "UNASSIGNED_STACK" Bundle.steD).before args s = true) (lN : (Cond.laysStatic Bundle.tN "SUPPRESSED_SENTINEL" Bundle.listD).before args s = true) : ∀ w ∈ L, w.before args s = true := by
  intro w hw
  by_cases e1 : w = .isRef (.static Bundle.tN "UNASSIGNED_STACK" Bundle.steD)
  · rw [e1]; exact hU
  · by_cases e2 : w = .isRef (.static Bundle.tN "SUPPRESSED_SENTINEL" Bundle.listD)
    · rw [e2]; exact hN
    · by_cases e3 : w = .laysStatic Bundle.tN "UNASSIGNED_STACK" Bundle.steD
      · rw [e3]; exact lU
      · by_cases e4 : w = .laysStatic Bundle.tN "SUPPRESSED_SENTINEL" Bundle.listD
        · rw [e4]; exact lN
        · exact h1 w (List.mem_filter.mpr ⟨hw, by unfold vx_no; rw [decide_eq_true e1, decide_eq_true e2, decide_eq_true e3, decide_eq_true e4]; rfl⟩)
def vx_L (C n d : String) (A : Nat → Prop) (U : State) (H : Heap) : Prop := ∃ (c : ClassId) (k : Class) (i : Nat) (f : Field) (a : Nat) (cell : Cell), U.vm.findClass C = some c ∧ U.fieldFound? C n d = some (c, k, i, f) ∧ f.isStatic = true ∧ k.statics = some a ∧ H[a]? = some cell ∧ cell.vm.isStatics = true ∧ cell.cls = c ∧ f.slot < cell.slots.size ∧ k.staticTypes[f.slot]? = some f.type ∧ ¬ A a
theorem vx_L.moved {C n d : String} {A : Nat → Prop} {u U : State} {H : Heap} (hvm : u.vm.Alike U.vm) (h : vx_L C n d A u H) : vx_L C n d A U H := by
  obtain ⟨c, k, i, f, a, cell, h1, h2, h3, h4, h5, h6, h7, h8, h9, h10⟩ := h
  obtain ⟨k', hi', he⟩ := State.fieldFound?_setVm hvm h2
  exact ⟨c, k', i, f, a, cell, by rw [hvm.findClass]; exact h1, hi', h3, by rw [he]; exact h4, h5, h6, h7, h8, by rw [he]; exact h9, h10⟩
theorem vx_L.kept {C n d : String} {A : Nat → Prop} {U : State} {H H1 : Heap} (h : vx_L C n d A U H) (hq : ∀ a : Nat, a < H.size → ¬ A a → H1[a]? = H[a]?) : vx_L C n d A U H1 := by
  obtain ⟨c, k, i, f, a, cell, h1, h2, h3, h4, h5, h6, h7, h8, h9, h10⟩ := h
  exact ⟨c, k, i, f, a, cell, h1, h2, h3, h4, by rw [hq a (Array.getElem?_eq_some_iff.mp h5).1 h10]; exact h5, h6, h7, h8, h9, h10⟩
theorem vx_L.narrow {C n d : String} {A B : Nat → Prop} {U : State} {H : Heap} (h : vx_L C n d A U H) (hAB : ∀ q, B q → A q) : vx_L C n d B U H := by
  obtain ⟨c, k, i, f, a, cell, h1, h2, h3, h4, h5, h6, h7, h8, h9, h10⟩ := h
  exact ⟨c, k, i, f, a, cell, h1, h2, h3, h4, h5, h6, h7, h8, h9, fun z => h10 (hAB _ z)⟩
theorem vx_L.word {C n d : String} {A : Nat → Prop} {s : State} {args : Array Value} (h : vx_L C n d A s s.heap) : (Cond.laysStatic C n d).before args s = true := by
  obtain ⟨c, k, i, f, a, cell, h1, h2, h3, h4, h5, h6, h7, h8, h9, -⟩ := h
  show (Cond.laysStatic C n d).holds args s none s [] = true
  exact Cond.laysStatic_of h1 h2 h3 h4 h5 h6 h7 h8 h9
def vx_Zq (C n d : String) (A : Nat → Prop) (U : State) (H : Heap) : Prop := va_Zq C n d A U H ∧ vx_L C n d A U H
theorem vx_Zq.moved {C n d : String} {A : Nat → Prop} {u U : State} {H : Heap} (hvm : u.vm.Alike U.vm) (h : vx_Zq C n d A u H) : vx_Zq C n d A U H := ⟨va_Zq.moved hvm h.1, vx_L.moved hvm h.2⟩
theorem vx_Zq.kept {C n d : String} {A : Nat → Prop} {U : State} {H H1 : Heap} (h : vx_Zq C n d A U H) (hq : ∀ a : Nat, a < H.size → ¬ A a → H1[a]? = H[a]?) : vx_Zq C n d A U H1 := ⟨va_Zq.kept h.1 hq, vx_L.kept h.2 hq⟩
theorem vx_Zq.narrow {C n d : String} {A B : Nat → Prop} {U : State} {H : Heap} (h : vx_Zq C n d A U H) (hAB : ∀ q, B q → A q) : vx_Zq C n d B U H := ⟨va_Zq.narrow h.1 hAB, vx_L.narrow h.2 hAB⟩
theorem vx_Zqof {args : Array Value} {s : State} {C n d : String} {A : Nat → Prop} (hl : (Cond.laysStatic C n d).before args s = true) (hini : (Cond.initialized C).before args s = true) (h : (Cond.isRef (.static C n d)).before args s = true) (hA : ∀ a : Nat, a < s.heap.size → ¬ A a) : vx_Zq C n d A s s.heap := by
  refine ⟨va_Zqof hl hini h hA, ?_⟩
  obtain ⟨c, k, i, f, a, cell, h1, h2, h3, h4, h5, h6, h7, h8, h9⟩ := Cond.laysStatic_spec hl
  exact ⟨c, k, i, f, a, cell, h1, h2, h3, h4, h5, h6, h7, h8, h9, hA a (Array.getElem?_eq_some_iff.mp h5).1⟩
theorem vx_isRef {C n d : String} {v : Value} {A : Nat → Prop} {s : State} {args : Array Value} (h : va_Z C n d v A s s.heap) (hv : v.isRef = true) : (Cond.isRef (.static C n d)).before args s = true := by
  obtain ⟨cf, kf, fi, f, a, cell, h1, h2, h3, h4, h5, h6, h7, -⟩ := h
  have he : (Term.static C n d).eval args s none [] s = some v := by
    simp [Term.eval, State.fieldNamed?, h1, h2, h4, h5, h6, h7]
  simp only [Cond.before, Cond.holds, Cond.value, he]
  cases v <;> simp_all [Value.isRef]
theorem vx_isRefq {C n d : String} {A : Nat → Prop} {s : State} {args : Array Value} (h : va_Zq C n d A s s.heap) : (Cond.isRef (.static C n d)).before args s = true := by
  rcases h with h | ⟨t, h⟩
  · exact vx_isRef h rfl
  · exact vx_isRef h rfl
theorem vx_rebase {T : State} (X : Stand p l e R s m args below meth c T locs cells slots) {R' : Room} (hf : R'.frames ≤ R.frames) (hl : R'.locals ≤ R.locals) (hc : cells + R'.cells ≤ R.cells) (hs : slots + R'.slots ≤ R.slots) :
    Stand p l e R' ((T.setVm s.vm).setFrames (.invoking m args :: below)) m args below meth c T [] 0 0 := by
  have htop : (T.setVm s.vm).topJava?.isSome := X.here.top
  have hF : ((T.setVm s.vm).setFrames (.invoking m args :: below)).frames = .invoking m args :: below := State.frames_setFrames _ (State.cur_lt_of_top htop)
  obtain ⟨g₀, hg0⟩ := Option.isSome_iff_exists.mp htop
  obtain ⟨r, hr⟩ := State.topJava?_eq_some.mp hg0
  have hl9 : e.platform.stackLimits (T.setVm s.vm).me = e.platform.stackLimits s.me := X.limits
  have hb9 : (T.setVm s.vm).me.stackBytes = s.me.stackBytes := X.bytes
  refine ⟨X.admits, X.cas, X.clock, hF, ?_, X.hears, X.method, X.code, X.here, X.tail, X.warmed, ?_, ?_, ?_⟩
  · have h := X.room
    have hU : ((T.setVm s.vm).setFrames (.invoking m args :: below)).localsInUse = s.localsInUse := by
      rw [State.localsInUse_invoking hF (meth := meth) (c := c) X.method X.code, State.localsInUse_invoking X.frames X.method X.code]
    simp only [State.hasRoom, Bool.and_eq_true, decide_eq_true_eq] at h ⊢
    obtain ⟨⟨⟨⟨h1, h2, h3, h4, h5, h6⟩, h7⟩, h8⟩, h9⟩ := h
    rw [X.frames, List.length_cons] at h2 h3
    have q1 := X.heapSize
    have q2 := X.used
    simp only [hF, hU, List.length_cons, State.stackLimits_setFrames, State.stackBytes_setFrames, hl9, hb9]
    refine ⟨⟨⟨⟨by omega, by omega, by omega, by omega, by omega, h6⟩, ?_⟩, ?_⟩, X.book⟩
    · show T.heap.size + R'.cells ≤ e.platform.maxCells
      omega
    · show T.slotsUsed + R'.slots ≤ e.platform.maxSlots
      omega
  · rw [State.stackLimits_setFrames]; rfl
  · rw [State.stackBytes_setFrames]; rfl
  · refine ⟨?_, Nat.le_refl _, Nat.le_refl _, ?_, ?_, fun a c9 h9 => ⟨c9, h9, rfl, rfl, fun _ _ => rfl⟩⟩
    · obtain ⟨t, ht, -⟩ := State.frames_cons hr
      show T.setVm s.vm = { ((T.setVm s.vm).setFrames (.invoking m args :: below)).setFrames (T.setVm s.vm).frames with heap := T.heap, slotsUsed := T.slotsUsed }
      rw [State.setFrames_setFrames, State.setFrames_self ht]
      rfl
    · show T.slotsUsed = T.slotsUsed + ((T.heap.toList.drop T.heap.size).map (·.slots.size)).sum
      rw [List.drop_eq_nil_of_le (Nat.le_of_eq Array.length_toList)]
      rfl
    · show ((T.heap.toList.drop T.heap.size).map (·.slots.size)).sum ≤ 0
      rw [List.drop_eq_nil_of_le (Nat.le_of_eq Array.length_toList)]
      exact Nat.le_refl _
theorem vx_throw0 {cc : ByteArray} {pc : Nat} (hexec : p.tables.exec = Jvm.exec) (hb : c.code = cc) (hl : l.stackTraces = false) {own cls : String} {names : List String} {ik ic mc ms : Nat} {A : Nat → Prop}
    (hown : s.vm.findClass own = some m.cls) (hcls : Bundle.fit cls = true) (hnames : ∀ n ∈ names, Bundle.fit n = true)
    (hk : (Cond.classLink own ik cls).before args s = true) (hini : (Cond.initialized cls).before args s = true) (hat : ∀ w ∈ vx_at0 own ic cls names, w.before args s = true)
    (hgood : ∀ w ∈ Cond.classLink own ik cls :: Cond.initialized cls :: vx_at0 own ic cls names, vx_ot w = true)
    (hU : vx_Zq Bundle.tN "UNASSIGNED_STACK" Bundle.steD A s s.heap) (hN : vx_Zq Bundle.tN "SUPPRESSED_SENTINEL" Bundle.listD A s s.heap) (hS : va_S A s.heap H locs) (hsize : ls.size = c.maxLocals)
    (d0 : decode cc pc = .ok (.new ik, 3)) (d3 : decode cc (pc + 3) = .ok (.dup, 1)) (d4 : decode cc (pc + 4) = .ok (.invokespecial ic, 3)) (d7 : decode cc (pc + 7) = .ok (.athrow, 1))
    (hout : ∀ x ∈ c.exceptionTable.toList, covers x (pc + 7) = false)
    (hRframes : names.length + 3 < R.frames) (hRlocals : (rest.map fun v => v.category).sum + (13 * (names.length + 1) + 42) ≤ R.locals) (hRcells : cells + 1 ≤ R.cells) (hRslots : slots + 6 ≤ R.slots) (hlocks : meth.locks = false)
    (hx : ∀ t : State, s.vm.Alike t.vm → H.size ≤ t.heap.size → (∀ q : Nat, q < H.size → t.heap[q]? = H[q]?) → XC cls s t)
    (hf : ∀ z ∈ locs, free z.base) (hc : cells + 1 ≤ mc) (hs : slots + 6 ≤ ms) :
    W p l e R s m args below meth c H locs cells slots (vx_MQ below Qc XC args s mc ms free) (F0 m pc ls rest) := by
  intro T hT X
  have htr : e.platform.stackTraces = false := (show e.platform.stackTraces = l.stackTraces by rw [X.admits.platform]).trans hl
  have Y := vx_rebase X (R' := { frames := R.frames, locals := R.locals, cells := 1, slots := 6 }) (Nat.le_refl _) (Nat.le_refl _) hRcells hRslots
  obtain ⟨s', hA⟩ : ∃ z, z = (T.setVm s.vm).setFrames (.invoking m args :: below) := ⟨_, rfl⟩
  rw [← hA] at Y
  have hvm : s'.vm = s.vm := by rw [hA]; rfl
  have hhp : s'.heap = H := by rw [hA]; exact hT
  have hW0 : s.WarmedH s'.vm := by rw [hvm]; exact State.WarmedH.refl s
  have hat' : ∀ w ∈ vx_at0 own ic cls names, w.before args s' = true := fun w hw => vx_ot_at hW0 hvm.symm (hgood w (List.mem_cons_of_mem _ (List.mem_cons_of_mem _ hw))) (hat w hw)
  have hk' : (Cond.classLink own ik cls).before args s' = true := vx_ot_at hW0 hvm.symm (hgood _ List.mem_cons_self) hk
  have hini' : (Cond.initialized cls).before args s' = true := vx_ot_at hW0 hvm.symm (hgood _ (List.mem_cons_of_mem _ List.mem_cons_self)) hini
  have hU' : vx_Zq Bundle.tN "UNASSIGNED_STACK" Bundle.steD A s' s'.heap := by rw [hhp]; exact vx_Zq.moved hW0.alike (hU.kept hS.2.1)
  have hN' : vx_Zq Bundle.tN "SUPPRESSED_SENTINEL" Bundle.listD A s' s'.heap := by rw [hhp]; exact vx_Zq.moved hW0.alike (hN.kept hS.2.1)
  have h : ∀ w ∈ Bundle.ownAtoms0 own ic cls names, w.before args s' = true := vx_own hat' (vx_isRefq hU'.1) (vx_isRefq hN'.1) hU'.2.word hN'.2.word
  have hown' : s'.vm.findClass own = some m.cls := by rw [hvm]; exact hown
  have hins : (Cond.instantiable cls 6).before args s' = true := h _ (by simp [Bundle.ownAtoms0])
  obtain ⟨vm₁, cX, kX, hfX, hkX, -, -, X₁, st1⟩ := Y.newCold hexec (own := own) (C := cls) (index := ik) (n := 6) hown' hk' hins hini'
    (g := F0 m pc ls rest) rfl (by rw [hb]; exact d0) (Nat.le_refl _) (Nat.le_refl _)
  generalize hT1 : (T.setVm vm₁).pushCell { cls := cX, slots := kX.instanceTypes.map defaultValue, vm := .none } = T1 at X₁ st1
  have hcat : (Value.ref T.heap.size).category = 1 := rfl
  have hcellA : T1.heap[T.heap.size]? = some (freshCell cX kX) := by rw [← hT1]; exact State.heap_pushCell_size _ _
  have d3' : decode c.code (pc + 3) = .ok (.dup, 1) := by rw [hb]; exact d3
  obtain ⟨U, hsteps, hrun, hend, hW, hsame, ce, hce, hO⟩ := X₁.ctorThrow0 hexec htr (own := own) (cls := cls) (names := names) (ic := ic) hown' hcls hnames h (fun x hx => nomatch hx) hfX hkX hcellA (by rw [hhp, hT]; exact Nat.le_refl _)
    (g := { method := m, pc := pc + 4, locals := ls, stack := .ref T.heap.size :: .ref T.heap.size :: rest, locked := none }) rfl hsize rfl rfl (rest := rest) rfl
    (by rw [hb]; exact d4) (by rw [hb]; exact d7) hout hRframes (by simp only [List.map_cons, List.sum_cons, hcat]; omega) hlocks
  obtain ⟨f1, f2⟩ := vx_frame hsame
  rw [hhp] at f1 f2
  have hWs : s.WarmedH U.vm := State.WarmedH.trans hW0 hW
  have hcl : s.vm.findClass cls = some ce.cls := by
    have h9 := hO.cls
    rw [hvm] at h9
    exact h9
  have hall : s.sameButNew ({ U with vm := s.vm } : State) locs mc ms := by
    subst hA
    obtain ⟨e1, e2⟩ := hsame
    rw [State.setFrames_setFrames] at e1
    have h2 : (T.setVm s.vm).sameButNew ({ U with vm := s.vm } : State) [] (0 + 1) (0 + 6) := ⟨e1, e2⟩
    have h3 := X.same.trans h2
    rw [List.append_nil] at h3
    exact h3.mono hc hs
  refine ⟨U, ?_, .threw T.heap.size, hrun, hend, Or.inr ⟨T.heap.size, rfl, cls, ce, locs, hx U hWs.alike f1 (fun q hq => f2 q hq (fun z hz => nomatch hz)), hce, hO.vm, hcl, hWs, hall, hf⟩⟩
  refine st1 _ ?_
  show Steps p.tables e below (T1.setTop { method := m, pc := pc + 3, locals := ls, stack := .ref T.heap.size :: rest, locked := none }) _
  jvm_step X₁.here [X₁.here.top, hexec, d3', Value.category]
  exact hsteps
theorem vx_throwS {cc : ByteArray} {pc : Nat} (hexec : p.tables.exec = Jvm.exec) (hb : c.code = cc) (hl : l.stackTraces = false) {own cls text : String} {names : List String} {ik is ic mc ms sa : Nat} {A : Nat → Prop}
    (hown : s.vm.findClass own = some m.cls) (hcls : Bundle.fit cls = true) (hnames : ∀ n ∈ names, Bundle.fit n = true)
    (hk : (Cond.classLink own ik cls).before args s = true) (hini : (Cond.initialized cls).before args s = true) (hstr : vk_R own is text sa s) (hat : ∀ w ∈ vx_atS own ic cls names, w.before args s = true)
    (hgood : ∀ w ∈ Cond.classLink own ik cls :: Cond.initialized cls :: vx_atS own ic cls names, vx_ot w = true)
    (hU : vx_Zq Bundle.tN "UNASSIGNED_STACK" Bundle.steD A s s.heap) (hN : vx_Zq Bundle.tN "SUPPRESSED_SENTINEL" Bundle.listD A s s.heap) (hS : va_S A s.heap H locs) (hsize : ls.size = c.maxLocals)
    (d0 : decode cc pc = .ok (.new ik, 3)) (d3 : decode cc (pc + 3) = .ok (.dup, 1)) (d4 : decode cc (pc + 4) = .ok (.ldc is, 2)) (d6 : decode cc (pc + 6) = .ok (.invokespecial ic, 3)) (d9 : decode cc (pc + 9) = .ok (.athrow, 1))
    (hout : ∀ x ∈ c.exceptionTable.toList, covers x (pc + 9) = false)
    (hRframes : names.length + 3 < R.frames) (hRlocals : (rest.map fun v => v.category).sum + (13 * (names.length + 1) + 43) ≤ R.locals) (hRcells : cells + 1 ≤ R.cells) (hRslots : slots + 6 ≤ R.slots) (hlocks : meth.locks = false)
    (hx : ∀ t : State, s.vm.Alike t.vm → H.size ≤ t.heap.size → (∀ q : Nat, q < H.size → t.heap[q]? = H[q]?) → XC cls s t)
    (hf : ∀ z ∈ locs, free z.base) (hc : cells + 1 ≤ mc) (hs : slots + 6 ≤ ms) :
    W p l e R s m args below meth c H locs cells slots (vx_MQ below Qc XC args s mc ms free) (F0 m pc ls rest) := by
  intro T hT X
  have htr : e.platform.stackTraces = false := (show e.platform.stackTraces = l.stackTraces by rw [X.admits.platform]).trans hl
  have Y := vx_rebase X (R' := { frames := R.frames, locals := R.locals, cells := 1, slots := 6 }) (Nat.le_refl _) (Nat.le_refl _) hRcells hRslots
  obtain ⟨s', hA⟩ : ∃ z, z = (T.setVm s.vm).setFrames (.invoking m args :: below) := ⟨_, rfl⟩
  rw [← hA] at Y
  have hvm : s'.vm = s.vm := by rw [hA]; rfl
  have hhp : s'.heap = H := by rw [hA]; exact hT
  have hW0 : s.WarmedH s'.vm := by rw [hvm]; exact State.WarmedH.refl s
  have hat' : ∀ w ∈ vx_atS own ic cls names, w.before args s' = true := fun w hw => vx_ot_at hW0 hvm.symm (hgood w (List.mem_cons_of_mem _ (List.mem_cons_of_mem _ hw))) (hat w hw)
  have hk' : (Cond.classLink own ik cls).before args s' = true := vx_ot_at hW0 hvm.symm (hgood _ List.mem_cons_self) hk
  have hini' : (Cond.initialized cls).before args s' = true := vx_ot_at hW0 hvm.symm (hgood _ (List.mem_cons_of_mem _ List.mem_cons_self)) hini
  have hU' : vx_Zq Bundle.tN "UNASSIGNED_STACK" Bundle.steD A s' s'.heap := by rw [hhp]; exact vx_Zq.moved hW0.alike (hU.kept hS.2.1)
  have hN' : vx_Zq Bundle.tN "SUPPRESSED_SENTINEL" Bundle.listD A s' s'.heap := by rw [hhp]; exact vx_Zq.moved hW0.alike (hN.kept hS.2.1)
  have h : ∀ w ∈ Bundle.ownAtoms own ic cls names, w.before args s' = true := vx_own hat' (vx_isRefq hU'.1) (vx_isRefq hN'.1) hU'.2.word hN'.2.word
  have hown' : s'.vm.findClass own = some m.cls := by rw [hvm]; exact hown
  have hins : (Cond.instantiable cls 6).before args s' = true := h _ (by simp [Bundle.ownAtoms])
  obtain ⟨vm₁, cX, kX, hfX, hkX, -, -, X₁, st1⟩ := Y.newCold hexec (own := own) (C := cls) (index := ik) (n := 6) hown' hk' hins hini'
    (g := F0 m pc ls rest) rfl (by rw [hb]; exact d0) (Nat.le_refl _) (Nat.le_refl _)
  generalize hT1 : (T.setVm vm₁).pushCell { cls := cX, slots := kX.instanceTypes.map defaultValue, vm := .none } = T1 at X₁ st1
  have hcat : (Value.ref T.heap.size).category = 1 := rfl
  have hcellA : T1.heap[T.heap.size]? = some (freshCell cX kX) := by rw [← hT1]; exact State.heap_pushCell_size _ _
  have d3' : decode c.code (pc + 3) = .ok (.dup, 1) := by rw [hb]; exact d3
  have d4' : decode c.code (pc + 4) = .ok (.ldc is, 2) := by rw [hb]; exact d4
  have hstr' : vk_R own is text sa s' := vk_R.warm hW0 hstr
  obtain ⟨U, hsteps, hrun, hend, hW, hsame, ce, hce, hO⟩ := X₁.ctorThrowS hexec htr (own := own) (cls := cls) (names := names) (ic := ic) hown' hcls hnames h (fun x hx => nomatch hx) hfX hkX hcellA (by rw [hhp, hT]; exact Nat.le_refl _) (msg := .ref sa) rfl
    (g := { method := m, pc := pc + 6, locals := ls, stack := .ref sa :: .ref T.heap.size :: .ref T.heap.size :: rest, locked := none }) rfl hsize rfl rfl (rest := rest) rfl
    (by rw [hb]; exact d6) (by rw [hb]; exact d9) hout hRframes (by simp only [List.map_cons, List.sum_cons, hcat]; omega) hlocks
  obtain ⟨f1, f2⟩ := vx_frame hsame
  rw [hhp] at f1 f2
  have hWs : s.WarmedH U.vm := State.WarmedH.trans hW0 hW
  have hcl : s.vm.findClass cls = some ce.cls := by
    have h9 := hO.cls
    rw [hvm] at h9
    exact h9
  have hall : s.sameButNew ({ U with vm := s.vm } : State) locs mc ms := by
    subst hA
    obtain ⟨e1, e2⟩ := hsame
    rw [State.setFrames_setFrames] at e1
    have h2 : (T.setVm s.vm).sameButNew ({ U with vm := s.vm } : State) [] (0 + 1) (0 + 6) := ⟨e1, e2⟩
    have h3 := X.same.trans h2
    rw [List.append_nil] at h3
    exact h3.mono hc hs
  refine ⟨U, ?_, .threw T.heap.size, hrun, hend, Or.inr ⟨T.heap.size, rfl, cls, ce, locs, hx U hWs.alike f1 (fun q hq => f2 q hq (fun z hz => nomatch hz)), hce, hO.vm, hcl, hWs, hall, hf⟩⟩
  refine st1 _ ?_
  show Steps p.tables e below (T1.setTop { method := m, pc := pc + 3, locals := ls, stack := .ref T.heap.size :: rest, locked := none }) _
  jvm_step X₁.here [X₁.here.top, hexec, d3', Value.category]
  exact X₁.ldcString hexec (own := own) (text := text) (index := is) (a := sa) hown' hstr'.1 hstr'.2
    (g := { method := m, pc := pc + 4, locals := ls, stack := .ref T.heap.size :: .ref T.heap.size :: rest, locked := none }) rfl d4' _ hsteps
theorem vx_throwSW {cc : ByteArray} {pc : Nat} (hexec : p.tables.exec = Jvm.exec) (hb : c.code = cc) (hl : l.stackTraces = false) {own cls text : String} {names : List String} {ik is ic mc ms sa : Nat} {A : Nat → Prop}
    (hown : s.vm.findClass own = some m.cls) (hcls : Bundle.fit cls = true) (hnames : ∀ n ∈ names, Bundle.fit n = true)
    (hk : (Cond.classLink own ik cls).before args s = true) (hini : (Cond.initialized cls).before args s = true) (hstr : vk_R own is text sa s) (hat : ∀ w ∈ vx_atS own ic cls names, w.before args s = true)
    (hgood : ∀ w ∈ Cond.classLink own ik cls :: Cond.initialized cls :: vx_atS own ic cls names, vx_ot w = true)
    (hU : vx_Zq Bundle.tN "UNASSIGNED_STACK" Bundle.steD A s s.heap) (hN : vx_Zq Bundle.tN "SUPPRESSED_SENTINEL" Bundle.listD A s s.heap) (hS : va_S A s.heap H locs) (hsize : ls.size = c.maxLocals)
    (d0 : decode cc pc = .ok (.new ik, 3)) (d3 : decode cc (pc + 3) = .ok (.dup, 1)) (d4 : decode cc (pc + 4) = .ok (.ldc_w is, 3)) (d7 : decode cc (pc + 7) = .ok (.invokespecial ic, 3)) (d10 : decode cc (pc + 10) = .ok (.athrow, 1))
    (hout : ∀ x ∈ c.exceptionTable.toList, covers x (pc + 10) = false)
    (hRframes : names.length + 3 < R.frames) (hRlocals : (rest.map fun v => v.category).sum + (13 * (names.length + 1) + 43) ≤ R.locals) (hRcells : cells + 1 ≤ R.cells) (hRslots : slots + 6 ≤ R.slots) (hlocks : meth.locks = false)
    (hx : ∀ t : State, s.vm.Alike t.vm → H.size ≤ t.heap.size → (∀ q : Nat, q < H.size → t.heap[q]? = H[q]?) → XC cls s t)
    (hf : ∀ z ∈ locs, free z.base) (hc : cells + 1 ≤ mc) (hs : slots + 6 ≤ ms) :
    W p l e R s m args below meth c H locs cells slots (vx_MQ below Qc XC args s mc ms free) (F0 m pc ls rest) := by
  intro T hT X
  have htr : e.platform.stackTraces = false := (show e.platform.stackTraces = l.stackTraces by rw [X.admits.platform]).trans hl
  have Y := vx_rebase X (R' := { frames := R.frames, locals := R.locals, cells := 1, slots := 6 }) (Nat.le_refl _) (Nat.le_refl _) hRcells hRslots
  obtain ⟨s', hA⟩ : ∃ z, z = (T.setVm s.vm).setFrames (.invoking m args :: below) := ⟨_, rfl⟩
  rw [← hA] at Y
  have hvm : s'.vm = s.vm := by rw [hA]; rfl
  have hhp : s'.heap = H := by rw [hA]; exact hT
  have hW0 : s.WarmedH s'.vm := by rw [hvm]; exact State.WarmedH.refl s
  have hat' : ∀ w ∈ vx_atS own ic cls names, w.before args s' = true := fun w hw => vx_ot_at hW0 hvm.symm (hgood w (List.mem_cons_of_mem _ (List.mem_cons_of_mem _ hw))) (hat w hw)
  have hk' : (Cond.classLink own ik cls).before args s' = true := vx_ot_at hW0 hvm.symm (hgood _ List.mem_cons_self) hk
  have hini' : (Cond.initialized cls).before args s' = true := vx_ot_at hW0 hvm.symm (hgood _ (List.mem_cons_of_mem _ List.mem_cons_self)) hini
  have hU' : vx_Zq Bundle.tN "UNASSIGNED_STACK" Bundle.steD A s' s'.heap := by rw [hhp]; exact vx_Zq.moved hW0.alike (hU.kept hS.2.1)
  have hN' : vx_Zq Bundle.tN "SUPPRESSED_SENTINEL" Bundle.listD A s' s'.heap := by rw [hhp]; exact vx_Zq.moved hW0.alike (hN.kept hS.2.1)
  have h : ∀ w ∈ Bundle.ownAtoms own ic cls names, w.before args s' = true := vx_own hat' (vx_isRefq hU'.1) (vx_isRefq hN'.1) hU'.2.word hN'.2.word
  have hown' : s'.vm.findClass own = some m.cls := by rw [hvm]; exact hown
  have hins : (Cond.instantiable cls 6).before args s' = true := h _ (by simp [Bundle.ownAtoms])
  obtain ⟨vm₁, cX, kX, hfX, hkX, -, -, X₁, st1⟩ := Y.newCold hexec (own := own) (C := cls) (index := ik) (n := 6) hown' hk' hins hini'
    (g := F0 m pc ls rest) rfl (by rw [hb]; exact d0) (Nat.le_refl _) (Nat.le_refl _)
  generalize hT1 : (T.setVm vm₁).pushCell { cls := cX, slots := kX.instanceTypes.map defaultValue, vm := .none } = T1 at X₁ st1
  have hcat : (Value.ref T.heap.size).category = 1 := rfl
  have hcellA : T1.heap[T.heap.size]? = some (freshCell cX kX) := by rw [← hT1]; exact State.heap_pushCell_size _ _
  have d3' : decode c.code (pc + 3) = .ok (.dup, 1) := by rw [hb]; exact d3
  have d4' : decode c.code (pc + 4) = .ok (.ldc_w is, 3) := by rw [hb]; exact d4
  have hstr' : vk_R own is text sa s' := vk_R.warm hW0 hstr
  obtain ⟨U, hsteps, hrun, hend, hW, hsame, ce, hce, hO⟩ := X₁.ctorThrowS hexec htr (own := own) (cls := cls) (names := names) (ic := ic) hown' hcls hnames h (fun x hx => nomatch hx) hfX hkX hcellA (by rw [hhp, hT]; exact Nat.le_refl _) (msg := .ref sa) rfl
    (g := { method := m, pc := pc + 7, locals := ls, stack := .ref sa :: .ref T.heap.size :: .ref T.heap.size :: rest, locked := none }) rfl hsize rfl rfl (rest := rest) rfl
    (by rw [hb]; exact d7) (by rw [hb]; exact d10) hout hRframes (by simp only [List.map_cons, List.sum_cons, hcat]; omega) hlocks
  obtain ⟨f1, f2⟩ := vx_frame hsame
  rw [hhp] at f1 f2
  have hWs : s.WarmedH U.vm := State.WarmedH.trans hW0 hW
  have hcl : s.vm.findClass cls = some ce.cls := by
    have h9 := hO.cls
    rw [hvm] at h9
    exact h9
  have hall : s.sameButNew ({ U with vm := s.vm } : State) locs mc ms := by
    subst hA
    obtain ⟨e1, e2⟩ := hsame
    rw [State.setFrames_setFrames] at e1
    have h2 : (T.setVm s.vm).sameButNew ({ U with vm := s.vm } : State) [] (0 + 1) (0 + 6) := ⟨e1, e2⟩
    have h3 := X.same.trans h2
    rw [List.append_nil] at h3
    exact h3.mono hc hs
  refine ⟨U, ?_, .threw T.heap.size, hrun, hend, Or.inr ⟨T.heap.size, rfl, cls, ce, locs, hx U hWs.alike f1 (fun q hq => f2 q hq (fun z hz => nomatch hz)), hce, hO.vm, hcl, hWs, hall, hf⟩⟩
  refine st1 _ ?_
  show Steps p.tables e below (T1.setTop { method := m, pc := pc + 3, locals := ls, stack := .ref T.heap.size :: rest, locked := none }) _
  jvm_step X₁.here [X₁.here.top, hexec, d3', Value.category]
  exact X₁.ldcStringW hexec (own := own) (text := text) (index := is) (a := sa) hown' hstr'.1 hstr'.2
    (g := { method := m, pc := pc + 4, locals := ls, stack := .ref T.heap.size :: .ref T.heap.size :: rest, locked := none }) rfl d4' _ hsteps
end Ends
section Bodies
variable {l : Launch}
theorem vx_ofW {y : MethodName} {ws ws' : List Cond} {rm : Room} {Pc : Array Value → State → Prop} {Qc : Array Value → State → Outcome → State → Prop} {XC : String → State → State → Prop} {mc ms : Nat} {free : Addr → Prop} {cc : ByteArray} {maxL : Nat} {ret : Option FieldType}
    (hy : plainName y.cls = true) (hw : ws = Cond.code y cc maxL ret :: ws')
    (body : ∀ p e s m args below meth c s₁, BodyLoose p l y (headSpec ws rm) cc maxL ret e s m args below meth c s₁ → c.maxLocals = maxL → (∀ x ∈ c.exceptionTable.toList, False) → Pc args s →
      W p l e (headSpec ws rm).room s m args below meth c s.heap [] 0 0 (vx_MQ below Qc XC args s mc ms free) (entryFrame m args maxL)) : vx_Met l y ws rm Pc Qc XC mc ms free := by
  refine MetFree.of_bodyS (code := cc) (maxLocals := maxL) (ret := ret) hy ?_ ?_
  · intro args s m h hn
    obtain ⟨meth, c, h1, h2, h3, h4, h5, h6, -, -⟩ := Cond.code_spec hn (atoms_spec (ws := ws) h _ (by rw [hw]; exact List.mem_cons_self))
    exact ⟨meth, c, h1, h2, h3, h4, h5, h6⟩
  · intro p e s m args below meth c s₁ B hml hP _
    have hh0 : s₁.heap = s.heap := by rw [B.state]; rfl
    have ht : ∀ x ∈ c.exceptionTable.toList, False := by
      obtain ⟨meth9, c9, h1, h2, -, -, -, -, h7, -⟩ := Cond.code_spec B.named (atoms_spec (ws := ws) B.pre _ (by rw [hw]; exact List.mem_cons_self))
      cases Option.some.inj (h1.symm.trans B.method)
      cases Option.some.inj (h2.symm.trans (Stand.of_body B).code)
      intro x hx
      rw [Array.isEmpty_iff.mp h7] at hx
      cases hx
    obtain ⟨t, a1, o, b1, b2, b3⟩ := body p e s m args below meth c s₁ B hml ht hP s₁ hh0 (Stand.of_body B)
    exact ⟨t, o, a1, b1, b2, b3⟩
theorem vx_table {p : Program} {x y : MethodName} {S : Spec} {cc bytes : ByteArray} {maxL maxL' : Nat} {ret ret' : Option FieldType} {e : Env} {s s₁ : State} {m : MethodId} {args : Array Value} {below : List Frame} {meth : Method} {c : Code} {hh : List (Nat × Nat × Nat × Nat)}
    (B : BodyLoose p l y S cc maxL ret e s m args below meth c s₁) (h : (Cond.codeWith y bytes maxL' ret' hh).before args s = true) : c.exceptionTable.toList = tableOf hh := by
  obtain ⟨m9, meth9, c9, hn9, h1, h2, -, -, h6, -⟩ := Cond.codeWith_spec h
  cases Option.some.inj (hn9.symm.trans B.named)
  cases Option.some.inj (h1.symm.trans B.method)
  cases Option.some.inj (h2.symm.trans (Stand.of_body B).code)
  rw [← h6, table_eq]
end Bodies
end VXA
section VXS
variable {p : Program} {l : Launch} {e : Env} {R : Room} {s : State} {m : MethodId} {args : Array Value} {below : List Frame} {meth : Method} {c : Code} {T : State} {H : Heap} {locs : List Loc} {cells slots : Nat}
abbrev vx_CSW (R : Room) (s : State) (args : Array Value) (own : String) (index : Nat) (y : MethodName) (bytes : ByteArray) (maxL : Nat) (ret : Option FieldType) (hh : List (Nat × Nat × Nat × Nat)) (ws : List Cond) (rm : Room) (mc ms n : Nat) : Prop :=
  (rm.cells = mc ∧ rm.slots = ms ∧ rm.frames + 1 ≤ R.frames ∧ 8 + (maxL + 11) + rm.locals ≤ R.locals ∧ (∀ w ∈ ws, ∀ (a' : Array Value) (U : State), s.WarmedH U.vm → w.before a' U = true) ∧ Cond.codeWith y bytes maxL ret hh ∈ ws) ∧
  (Cond.codeWith y bytes maxL ret hh).before args s = true ∧ (Cond.initialized y.cls).before args s = true ∧ (y.cls ≠ "java/lang/invoke/MethodHandle" ∧ y.cls ≠ "java/lang/invoke/VarHandle") ∧
  (∀ sig, parseMethodDescriptor y.desc = some sig → n = sig.parameters.length) ∧ (Cond.methodLink own index y).before args s = true ∧ (Cond.static y).before args s = true
theorem vx_cwSW {own : String} {index maxL mc ms : Nat} {y : MethodName} {bytes : ByteArray} {ret : Option FieldType} {hh : List (Nat × Nat × Nat × Nat)} {Ts ws ws' : List Cond} {rm : Room} (n : Nat) (ht : ∀ w ∈ Ts, w.before args s = true) (hT : GoodIn Ts (va_wsS own index y ws)) (hw : ws = Cond.codeWith y bytes maxL ret hh :: ws') (hrc : rm.cells = mc) (hrs : rm.slots = ms)
    (hd : y.cls ≠ "java/lang/invoke/MethodHandle" ∧ y.cls ≠ "java/lang/invoke/VarHandle" ∧ (parseMethodDescriptor y.desc).map (fun d => d.parameters.length) = some n) (hR : rm.frames + 1 ≤ R.frames ∧ 8 + (maxL + 11) + rm.locals ≤ R.locals) :
    vx_CSW R s args own index y bytes maxL ret hh ws rm mc ms n := by
  have ok : ∀ w ∈ va_wsS own index y ws, w.before args s = true := fun w h => ht w (hT w h).1
  have hG : GoodIn Ts ws := fun w h => hT w (by unfold va_wsS; exact List.mem_append_right _ h)
  have hc : Cond.codeWith y bytes maxL ret hh ∈ ws := by rw [hw]; exact List.mem_cons_self
  refine ⟨⟨hrc, hrs, hR.1, hR.2, pay_in ht hG, hc⟩, ht _ (hG _ hc).1, ok _ (by simp [va_wsS]), ⟨hd.1, hd.2.1⟩, fun sig h => ?_, ok _ (by simp [va_wsS]), ok _ (by simp [va_wsS])⟩
  have h2 := hd.2.2
  rw [h] at h2
  exact (Option.some.inj h2).symm
theorem vx_callSW (X : Stand p l e R s m args below meth c T locs cells slots) (hexec : p.tables.exec = Jvm.exec) {own : String} {index : Nat} {y : MethodName} {bytes : ByteArray} {maxL : Nat} {ret : Option FieldType} {hh : List (Nat × Nat × Nat × Nat)}
    (hown : s.vm.findClass own = some m.cls) (hlink : (Cond.methodLink own index y).before args s = true) (hstat : (Cond.static y).before args s = true) (hinit : (Cond.initialized y.cls).before args s = true)
    (hcode : (Cond.codeWith y bytes maxL ret hh).before args s = true) (hy : y.cls ≠ "java/lang/invoke/MethodHandle" ∧ y.cls ≠ "java/lang/invoke/VarHandle")
    {W9 : Nat} {Pre : Pt → Array Value → Prop} {Post : Pt → Array Value → Option Value → Pt → Prop} (hK : Back l R p e below s args y 3 W9 Pre Post)
    {g : JFrame} (hg : g.method = m) (hsize : g.locals.size = c.maxLocals) {argsL rest : List Value} (hlen : ∀ sig, parseMethodDescriptor y.desc = some sig → argsL.length = sig.parameters.length)
    (hstack : g.stack = argsL.reverse ++ rest) (hW : 2 * g.monitorRoom + (rest.map fun v => v.category).sum ≤ W9) (hdg : decode c.code g.pc = .ok (.invokestatic index, 3))
    (hpre : ∀ vm₁, s.WarmedH vm₁ → Pre ⟨T.setVm vm₁, locs, cells, slots⟩ argsL.toArray) :
    ∃ (v : Option Value) (vm₁ : Vm) (B : Pt), s.WarmedH vm₁ ∧ Stand p l e R s m args below meth c B.U B.locs B.cells B.slots ∧ Post ⟨T.setVm vm₁, locs, cells, slots⟩ argsL.toArray v B ∧
      ∀ target, Steps p.tables e below (B.U.setTop { g with pc := g.pc + 3, stack := v.toList ++ rest }) target → Steps p.tables e below (T.setTop g) target := by
  obtain ⟨mk, methM, cM, hnamed, hmethM, -, -, -, -, -, -, hsigM⟩ := Cond.codeWith_spec hcode
  have hstatic : methM.isStatic = true := Cond.static_spec hnamed hmethM hstat
  obtain ⟨kP, hkP, -⟩ := className_of_methodNamed hnamed
  have hinitP : kP.init = .initialized := Cond.initialized_spec (findClass_of_methodNamed hnamed) hkP hinit
  obtain ⟨vm₁, X₁, hstep₁⟩ := X.invokestatic hexec hown hlink hnamed hmethM hstatic hkP hinitP hy (g := g) hg (argsL := argsL) (rest := rest) (hlen _ hsigM) hstack hdg
  obtain ⟨v, B, X', hpost, hsteps⟩ := hK m meth c ⟨T.setVm vm₁, locs, cells, slots⟩ { g with stack := rest } (.invokestatic index) mk argsL.toArray X₁ hg hsize hdg hW (X₁.named hnamed) (hpre vm₁ X₁.warmed)
  exact ⟨v, vm₁, B, X₁.warmed, X', hpost, fun target h => hstep₁ _ fun acts => by rw [doInvoke_state]; exact hsteps.trans h⟩
theorem vx_runSW {y : MethodName} {bytes cc : ByteArray} {maxL nL mc ms n index : Nat} {ret : Option FieldType} {hh : List (Nat × Nat × Nat × Nat)} {ws : List Cond} {rm : Room} {Pc : Array Value → State → Prop} {Qc : Array Value → State → Outcome → State → Prop} {free : Addr → Prop} {Ts : List Cond} {own : String} {As rest : List Value} {g : JFrame}
    (S : CallFix p m c cc nL s args Ts own) (hM : Met l y ws rm Pc Qc mc ms free) (cw : vx_CSW R s args own index y bytes maxL ret hh ws rm mc ms n) (hp : PreS s H Pc As)
    (hg : g.method = m) (hn : As.length = n) (hsize : g.locals.size = nL) (hstack : g.stack = As.reverse ++ rest) (hW : 2 * g.monitorRoom + (rest.map fun v => v.category).sum ≤ 8) (hdg : decode cc g.pc = .ok (.invokestatic index, 3)) (hf : cells + mc ≤ R.cells ∧ slots + ms ≤ R.slots) :
    va_Run p l e R s m args below meth c H locs cells slots mc ms g rest (Qc As.toArray) (free) := by
  obtain ⟨⟨hrc, hrs, hfr, hlo, hws, hcw⟩, hcode, hini, hy, hlen, hl, hstt⟩ := cw
  have hK : Back l R p e below s args y 3 8 (PreOf R mc ms Pc) (PostOf Qc mc ms free) := va_backW (hh := hh) (bytes := bytes) (maxL := maxL) (ret := ret) hM hp.1 hrc hrs hfr hlo hws hcw (fun a' U hW => word_at hW (Or.inl (by first | rfl | simp [Cond.onTables, Cond.keeps, Cond.steady])) hini)
  obtain ⟨hx, hb, hml, ho, -⟩ := S
  intro T hT X
  obtain ⟨v, vm₁, ⟨U', l2, c2, s2⟩, hW₁, X', ⟨g', mk, t, L, e1, e2, hq, h1, hL, h2, h3⟩, st⟩ := vx_callSW X hx (hh := hh) (bytes := bytes) (maxL := maxL) (ret := ret) ho hl hstt hini hcode hy hK hg (hsize.trans hml.symm) (argsL := As) (rest := rest) (fun sig h => hn.trans (hlen sig h)) hstack hW (by rw [hb]; exact hdg)
    (fun vm₁ hW₁ => ⟨hf.1, hf.2, hp.2 (T.setVm vm₁) hT hW₁⟩)
  dsimp only [Pt.U, Pt.locs, Pt.cells, Pt.slots] at X' e1 e2 h1 h2 h3 st
  subst h1; subst h2; subst h3
  exact ⟨v, (T.setVm vm₁).calling g' mk As.toArray, t, U', L, hT, X', hL, e1, e2, hq, st⟩
theorem vx_outP {p : Program} {l : Launch} {e : Env} {R : Room} {s : State} {m : MethodId} {args : Array Value} {below : List Frame} {meth : Method} {c : Code} {H : Heap} {locs : List Loc} {cells slots : Nat} {free : Addr → Prop} {ls : Array Slot} {rest : List Value} {Qc : Array Value → State → Outcome → State → Prop} {XC : String → State → State → Prop}
    {pc : Nat} {own E : String} {ce : Cell} {q : Addr} {mc ms : Nat} (hown : s.vm.findClass own = some m.cls) (hlocks : meth.locks = false)
    (hpass : ∀ z ∈ c.exceptionTable.toList, covers z pc = false ∨ (z.catchType ≠ 0 ∧ ∃ nm : String, (Cond.classLink own z.catchType nm).before args s = true ∧ va_Nc E nm s)) (hcell : H[q]? = some ce) (hv : ce.vm = .none) (hcl : s.vm.findClass E = some ce.cls)
    (hx : ∀ t : State, t.heap = H → s.vm.Alike t.vm → XC E s t) (hf : ∀ z ∈ locs, free z.base) (hc : cells ≤ mc) (hs : slots ≤ ms) :
    vx_W p l e R s m args below meth c H locs cells slots (vx_MQ below Qc XC args s mc ms free) (F0 m pc ls rest) q := by
  intro T hT X
  have hpl : e.platform.magicAccessors = ({} : Platform).magicAccessors := by rw [X.admits.platform]
  obtain ⟨vm', hW', X', st⟩ := X.outThrough hlocks q (g := F0 m pc ls rest) rfl rfl rfl (cell := ce) (by rw [hT]; exact hcell) (by rw [hv]; rfl)
    (by obtain ⟨k9, h9, -⟩ := Vm.findClass_spec hcl; exact ⟨k9, h9⟩) (fun z hz => by
      rcases hpass z hz with h | ⟨hz0, nm, hl1, hn1⟩
      · exact Or.inl h
      · obtain ⟨c6, hc6, hcl6⟩ := Cond.classLink_spec hown hl1 e.platform hpl
        obtain ⟨a8, b8, h1, h2, h3⟩ := hn1
        cases Option.some.inj (h1.symm.trans hcl)
        cases Option.some.inj (h2.symm.trans hc6)
        exact Or.inr ⟨hz0, _, hcl6, h3⟩)
  obtain ⟨g₀, hfr⟩ := X'.frames_eq
  have hcell9 : ((T.setVm vm').setFrames (.throwing q :: below)).heap[q]? = some ce := by
    show T.heap[q]? = some ce
    rw [hT]; exact hcell
  have hend : Ended ((T.setVm vm').setFrames (.throwing q :: below)) below (.threw q) := State.frames_setFrames _ (State.cur_lt_of_frames hfr)
  refine ⟨(T.setVm vm').setFrames (.throwing q :: below), ?_, .threw q, X'.here.running, hend, Or.inr ⟨q, rfl, E, ce, locs, hx _ hT (X'.ends _).1.alike, hcell9, hv, hcl, (X'.ends _).1, (X'.ends _).2.mono hc hs, hf⟩⟩
  rw [X.pushThrowing_eq]
  exact st
theorem vx_lt {D : va_G} {cl : List vw_C} {ws : va_W} {H1 : Heap} (h : va_P D cl ws H1) {k : Nat} {q : Nat × va_E} (hk : ws[k]? = some q) : q.1 < H1.size := (h k q hk).lt
end VXS
section VXH
section
variable {l : Launch} {R : Room} {p : Program} {e : Env} {below : List Frame} {s : State} {sargs : Array Value} {y : MethodName} {len W9 : Nat}
theorem vx_backW {ws : List Cond} {rm : Room} {Pc : Array Value → State → Prop} {Qc : Array Value → State → Outcome → State → Prop} {XC : String → State → State → Prop} {mc ms : Nat} {free : Addr → Prop} {bytes : ByteArray} {maxL : Nat} {ret : Option FieldType} {hh : List (Nat × Nat × Nat × Nat)}
    (hM : vx_Met l y ws rm Pc Qc XC mc ms free) (hblind : FrameBlind Pc) (hrc : rm.cells = mc) (hrs : rm.slots = ms)
    (hframes : rm.frames + 1 ≤ R.frames) (hlocals : W9 + (maxL + 11) + rm.locals ≤ R.locals)
    (hws : ∀ w ∈ ws, ∀ a' U, s.WarmedH U.vm → w.before a' U = true) (hcode : Cond.codeWith y bytes maxL ret hh ∈ ws) (hinit : ∀ a' U, s.WarmedH U.vm → (Cond.initialized y.cls).before a' U = true) :
    vx_Back l R p e below s sargs y len W9 (PreOf R mc ms Pc) (PostOf Qc mc ms free) (vx_Post XC mc ms free) := by
  intro m meth c A g ig mk a X hg hsize hdg hW hn hp
  have h1 : (headSpec ws rm).pre.before a A.U = true := atoms_intro fun w hw => hws w hw _ _ X.warmed
  have h2 : (Cond.codeWith y bytes maxL ret hh).before a A.U = true := hws _ hcode _ _ X.warmed
  have h3 : (Cond.initialized y.cls).before a A.U = true := hinit _ _ X.warmed
  have h4 : A.cells + (headSpec ws rm).room.cells ≤ R.cells := by rw [show (headSpec ws rm).room.cells = mc from hrc]; exact hp.1
  have h5 : A.slots + (headSpec ws rm).room.slots ≤ R.slots := by rw [show (headSpec ws rm).room.slots = ms from hrs]; exact hp.2.1
  have hPc : Pc a (A.U.calling g mk a) := hblind _ _ _ _ hp.2.2
  obtain ⟨U, Ls, c0, s0⟩ := A
  dsimp only [Pt.U, Pt.locs, Pt.cells, Pt.slots] at h1 h2 h3 h4 h5 X hn hPc ⊢
  obtain ⟨m9, methY, cY, hn9, hmY, hcY, -, hlY, -⟩ := Cond.codeWith_spec h2
  cases Option.some.inj (hn9.symm.trans hn)
  obtain ⟨kY, hkY, -⟩ := className_of_methodNamed hn
  have hinitY : kY.init = .initialized := Cond.initialized_spec (findClass_of_methodNamed hn) hkY h3
  have h : At U g.method c below := by rw [hg]; exact X.here
  have hlocals9 : W9 + (maxL + 11) + (headSpec ws rm).room.locals ≤ R.locals := hlocals
  have happ : (headSpec ws rm).appliesLoose y e.platform (U.calling g mk a) = true :=
    Spec.appliesLoose_calling (g := g) h hdg hn hkY hinitY
      (X.room_calling (g := g) (R' := (headSpec ws rm).room) hsize hmY hcY hframes (by rw [hlY]; omega) h4 h5) h1
  obtain ⟨mid, hmid⟩ := h.above
  have hfr : (U.setTop g).frames = (.java g :: mid) ++ below := by rw [State.frames_setTop' g h.top, hmid]; rfl
  obtain ⟨o, s₂, hsteps, -, hend, hq⟩ := Steps.callFree hM p X.admits X.cas X.clock (acts := []) hfr happ hPc trivial
  have hq' : vx_Q Qc XC mc ms free a (U.calling g mk a) o s₂ := hq
  rw [State.frames_setTop' g h.top] at hend
  obtain ⟨g₀, hg0⟩ := Option.isSome_iff_exists.mp h.top
  obtain ⟨r, hr⟩ := State.topJava?_eq_some.mp hg0
  have hr' : (({ U with heap := s₂.heap, slotsUsed := s₂.slotsUsed } : State).setVm s₂.vm).frames = .java g₀ :: r := hr
  rcases hq' with ⟨hqc, L, hfe, hL⟩ | ⟨q, rfl, E, ce, L, hx, hce, hcv, hcl, hW₂, hsm, hL⟩
  · obtain ⟨⟨v, rfl⟩, hW₂, e2, q2, q3, q4, q5, q6⟩ := id hfe
    have e3 : s₂ = ({ (U.calling g mk a).setFrames s₂.frames with heap := s₂.heap, slotsUsed := s₂.slotsUsed } : State).setVm s₂.vm := by
      have : s₂ = ({ s₂ with vm := (U.calling g mk a).vm } : State).setVm s₂.vm := rfl
      rw [e2] at this
      exact this
    obtain ⟨c₂, i₂, len₂, hc₂, hd₂, hf₂⟩ := hend
    have hW' : U.WarmedH s₂.vm := hW₂
    have hcc : c₂ = c := by
      have h1 : s₂.code? g.method = U.code? g.method := by
        rw [State.code?_eq, State.code?_eq, hW'.alike.method?]
      exact Option.some.inj (hc₂.symm.trans (h1.trans h.code))
    subst hcc
    have hlen : len₂ = len := by rw [hdg] at hd₂; cases hd₂; rfl
    subst hlen
    have hs₂ : s₂ = (({ U with heap := s₂.heap, slotsUsed := s₂.slotsUsed } : State).setVm s₂.vm).setTop { g with pc := g.pc + len₂, stack := v.toList ++ g.stack } := by
      refine e3.trans ?_
      rw [hf₂, State.calling_eq h.top, State.setFrames_setFrames, State.setTop_of_frames _ hr', hr]
      rfl
    have hsame : U.sameButNew ({ U with heap := s₂.heap, slotsUsed := s₂.slotsUsed } : State) L mc ms := by
      refine ⟨?_, q2, q3, q4, q5, q6⟩
      obtain ⟨t, ht, -⟩ := State.frames_cons hr
      show ({ U with heap := s₂.heap, slotsUsed := s₂.slotsUsed } : State) = { U.setFrames U.frames with heap := s₂.heap, slotsUsed := s₂.slotsUsed }
      rw [State.setFrames_self ht]
    subst hg
    refine Or.inl ⟨v, ⟨(({ U with heap := s₂.heap, slotsUsed := s₂.slotsUsed } : State).setVm s₂.vm), Ls ++ L, c0 + mc, s0 + ms⟩,
      ⟨X.admits, X.cas, X.clock, X.frames, X.room, X.hears, X.method, X.code, (X.here.setHeapUsed s₂.heap s₂.slotsUsed).setVm hW'.alike, X.tail, State.WarmedH.trans X.warmed hW', X.limits, X.bytes, X.same.trans (hsame.setVm s.vm)⟩,
      ⟨g, mk, s₂, L, rfl, rfl, hqc, rfl, hL, rfl, rfl⟩, ?_⟩
    show Steps p.tables e below _ ((({ U with heap := s₂.heap, slotsUsed := s₂.slotsUsed } : State).setVm s₂.vm).setTop { g with pc := g.pc + len₂, stack := v.toList ++ g.stack })
    rw [← hs₂]
    exact hsteps
  · obtain ⟨e2, q2, q3, q4, q5, q6⟩ := id hsm
    have e3 : s₂ = ({ (U.calling g mk a).setFrames s₂.frames with heap := s₂.heap, slotsUsed := s₂.slotsUsed } : State).setVm s₂.vm := by
      have : s₂ = ({ s₂ with vm := (U.calling g mk a).vm } : State).setVm s₂.vm := rfl
      rw [e2] at this
      exact this
    have hf₂ : s₂.frames = .throwing q :: .java g :: U.frames.tail := hend
    have hW' : U.WarmedH s₂.vm := hW₂
    have hs₂ : s₂ = ((({ U with heap := s₂.heap, slotsUsed := s₂.slotsUsed } : State).setVm s₂.vm).setTop g).pushFrame (.throwing q) := by
      refine e3.trans ?_
      rw [hf₂, State.calling_eq h.top, State.setFrames_setFrames, State.pushFrame, State.frames_setTop _ hr', State.setTop_of_frames _ hr', State.setFrames_setFrames, hr]
      rfl
    have hsame : U.sameButNew ({ U with heap := s₂.heap, slotsUsed := s₂.slotsUsed } : State) L mc ms := by
      refine ⟨?_, q2, q3, q4, q5, q6⟩
      obtain ⟨t, ht, -⟩ := State.frames_cons hr
      show ({ U with heap := s₂.heap, slotsUsed := s₂.slotsUsed } : State) = { U.setFrames U.frames with heap := s₂.heap, slotsUsed := s₂.slotsUsed }
      rw [State.setFrames_self ht]
    subst hg
    refine Or.inr ⟨q, ⟨(({ U with heap := s₂.heap, slotsUsed := s₂.slotsUsed } : State).setVm s₂.vm), Ls ++ L, c0 + mc, s0 + ms⟩,
      ⟨X.admits, X.cas, X.clock, X.frames, X.room, X.hears, X.method, X.code, (X.here.setHeapUsed s₂.heap s₂.slotsUsed).setVm hW'.alike, X.tail, State.WarmedH.trans X.warmed hW', X.limits, X.bytes, X.same.trans (hsame.setVm s.vm)⟩,
      ⟨g, mk, s₂, L, E, ce, rfl, rfl, hx, hce, hcv, hcl, rfl, hL, rfl, rfl⟩, ?_⟩
    show Steps p.tables e below _ (((({ U with heap := s₂.heap, slotsUsed := s₂.slotsUsed } : State).setVm s₂.vm).setTop g).pushFrame (.throwing q))
    rw [← hs₂]
    exact hsteps
end
variable {p : Program} {l : Launch} {e : Env} {R : Room} {s : State} {m : MethodId} {args : Array Value} {below : List Frame} {meth : Method} {c : Code} {T : State} {H : Heap} {locs : List Loc} {cells slots : Nat}
theorem vx_callVX (X : Stand p l e R s m args below meth c T locs cells slots) (hexec : p.tables.exec = Jvm.exec) {own C : String} {index : Nat} {y : MethodName} {bytes : ByteArray} {maxL : Nat} {ret : Option FieldType} {hh : List (Nat × Nat × Nat × Nat)}
    (hown : s.vm.findClass own = some m.cls) (hlink : (Cond.methodLink own index y).before args s = true) (hinst : (Cond.instanceMethod y).before args s = true) (hsel : (Cond.selects C y y).before args s = true)
    (hcode : (Cond.codeWith y bytes maxL ret hh).before args s = true) (hy : y.cls ≠ "java/lang/invoke/MethodHandle" ∧ y.cls ≠ "java/lang/invoke/VarHandle")
    {W9 : Nat} {Pre : Pt → Array Value → Prop} {Post : Pt → Array Value → Option Value → Pt → Prop} {PostX : Pt → Array Value → Addr → Pt → Prop} (hK : vx_Back l R p e below s args y 3 W9 Pre Post PostX)
    {b : Addr} {cellB : Cell} (hcell : T.heap[b]? = some cellB) (hobj : cellB.vm.isStatics = false) (hcls : s.vm.findClass C = some cellB.cls)
    {g : JFrame} (hg : g.method = m) (hsize : g.locals.size = c.maxLocals) {argsL rest : List Value} (hlen : ∀ sig, parseMethodDescriptor y.desc = some sig → argsL.length = sig.parameters.length)
    (hstack : g.stack = argsL.reverse ++ .ref b :: rest) (hW : 2 * g.monitorRoom + (rest.map fun v => v.category).sum ≤ W9) (hdg : decode c.code g.pc = .ok (.invokevirtual index, 3))
    (hpre : ∀ vm₁, s.WarmedH vm₁ → Pre ⟨T.setVm vm₁, locs, cells, slots⟩ (Value.ref b :: argsL).toArray) :
    (∃ (v : Option Value) (vm₁ : Vm) (B : Pt), s.WarmedH vm₁ ∧ Stand p l e R s m args below meth c B.U B.locs B.cells B.slots ∧ Post ⟨T.setVm vm₁, locs, cells, slots⟩ (Value.ref b :: argsL).toArray v B ∧
      ∀ target, Steps p.tables e below (B.U.setTop { g with pc := g.pc + 3, stack := v.toList ++ rest }) target → Steps p.tables e below (T.setTop g) target) ∨
    (∃ (q : Addr) (vm₁ : Vm) (B : Pt), s.WarmedH vm₁ ∧ Stand p l e R s m args below meth c B.U B.locs B.cells B.slots ∧ PostX ⟨T.setVm vm₁, locs, cells, slots⟩ (Value.ref b :: argsL).toArray q B ∧
      Steps p.tables e below (T.setTop g) ((B.U.setTop { g with stack := rest }).pushFrame (.throwing q))) := by
  obtain ⟨mk, methM, hnamed, hmethM, hstM, habM⟩ := Cond.instanceMethod_spec hinst
  obtain ⟨m8, methM', cM, hn8, hmethM', -, -, -, -, -, -, hsigM⟩ := Cond.codeWith_spec hcode
  cases Option.some.inj (hn8.symm.trans hnamed)
  cases hmethM.symm.trans hmethM'
  obtain ⟨c2, r2, m2, q1, q2, q3, q4, kP, hkP, hkPi⟩ := Cond.selects_spec hsel
  cases hcls.symm.trans q1
  cases (State.methodFound?_of_named hnamed hy).symm.trans q2
  cases hnamed.symm.trans q3
  have hselP : selectMethod e.platform s.vm cellB.cls mk = .method mk := by rw [Launch.admits_selectMethod X.admits]; exact q4
  obtain ⟨vm₁, X₁, hstep₁⟩ := X.invokevirtual hexec hown hlink hnamed hmethM hstM hkP hkPi hy (a := b) (cell := cellB) hcell
    (fun z h => by rw [h] at hobj; cases hobj) hselP hmethM habM hkP hkPi (g := g) hg (argsL := argsL) (rest := rest) (hlen _ hsigM) hstack hdg
  rcases hK m meth c ⟨T.setVm vm₁, locs, cells, slots⟩ { g with stack := rest } (.invokevirtual index) mk (Value.ref b :: argsL).toArray X₁ hg hsize hdg hW (X₁.named hnamed) (hpre vm₁ X₁.warmed) with ⟨v, B, X', hpost, hsteps⟩ | ⟨q, B, X', hpost, hsteps⟩
  · exact Or.inl ⟨v, vm₁, B, X₁.warmed, X', hpost, fun target h => hstep₁ _ fun acts => by rw [doInvoke_state]; exact hsteps.trans h⟩
  · exact Or.inr ⟨q, vm₁, B, X₁.warmed, X', hpost, hstep₁ _ fun acts => by rw [doInvoke_state]; exact hsteps⟩
theorem vx_callSX (X : Stand p l e R s m args below meth c T locs cells slots) (hexec : p.tables.exec = Jvm.exec) {own : String} {index : Nat} {y : MethodName} {bytes : ByteArray} {maxL : Nat} {ret : Option FieldType} {hh : List (Nat × Nat × Nat × Nat)}
    (hown : s.vm.findClass own = some m.cls) (hlink : (Cond.methodLink own index y).before args s = true) (hstat : (Cond.static y).before args s = true) (hinit : (Cond.initialized y.cls).before args s = true)
    (hcode : (Cond.codeWith y bytes maxL ret hh).before args s = true) (hy : y.cls ≠ "java/lang/invoke/MethodHandle" ∧ y.cls ≠ "java/lang/invoke/VarHandle")
    {W9 : Nat} {Pre : Pt → Array Value → Prop} {Post : Pt → Array Value → Option Value → Pt → Prop} {PostX : Pt → Array Value → Addr → Pt → Prop} (hK : vx_Back l R p e below s args y 3 W9 Pre Post PostX)
    {g : JFrame} (hg : g.method = m) (hsize : g.locals.size = c.maxLocals) {argsL rest : List Value} (hlen : ∀ sig, parseMethodDescriptor y.desc = some sig → argsL.length = sig.parameters.length)
    (hstack : g.stack = argsL.reverse ++ rest) (hW : 2 * g.monitorRoom + (rest.map fun v => v.category).sum ≤ W9) (hdg : decode c.code g.pc = .ok (.invokestatic index, 3))
    (hpre : ∀ vm₁, s.WarmedH vm₁ → Pre ⟨T.setVm vm₁, locs, cells, slots⟩ argsL.toArray) :
    (∃ (v : Option Value) (vm₁ : Vm) (B : Pt), s.WarmedH vm₁ ∧ Stand p l e R s m args below meth c B.U B.locs B.cells B.slots ∧ Post ⟨T.setVm vm₁, locs, cells, slots⟩ argsL.toArray v B ∧
      ∀ target, Steps p.tables e below (B.U.setTop { g with pc := g.pc + 3, stack := v.toList ++ rest }) target → Steps p.tables e below (T.setTop g) target) ∨
    (∃ (q : Addr) (vm₁ : Vm) (B : Pt), s.WarmedH vm₁ ∧ Stand p l e R s m args below meth c B.U B.locs B.cells B.slots ∧ PostX ⟨T.setVm vm₁, locs, cells, slots⟩ argsL.toArray q B ∧
      Steps p.tables e below (T.setTop g) ((B.U.setTop { g with stack := rest }).pushFrame (.throwing q))) := by
  obtain ⟨mk, methM, cM, hnamed, hmethM, -, -, -, -, -, -, hsigM⟩ := Cond.codeWith_spec hcode
  have hstatic : methM.isStatic = true := Cond.static_spec hnamed hmethM hstat
  obtain ⟨kP, hkP, -⟩ := className_of_methodNamed hnamed
  have hinitP : kP.init = .initialized := Cond.initialized_spec (findClass_of_methodNamed hnamed) hkP hinit
  obtain ⟨vm₁, X₁, hstep₁⟩ := X.invokestatic hexec hown hlink hnamed hmethM hstatic hkP hinitP hy (g := g) hg (argsL := argsL) (rest := rest) (hlen _ hsigM) hstack hdg
  rcases hK m meth c ⟨T.setVm vm₁, locs, cells, slots⟩ { g with stack := rest } (.invokestatic index) mk argsL.toArray X₁ hg hsize hdg hW (X₁.named hnamed) (hpre vm₁ X₁.warmed) with ⟨v, B, X', hpost, hsteps⟩ | ⟨q, B, X', hpost, hsteps⟩
  · exact Or.inl ⟨v, vm₁, B, X₁.warmed, X', hpost, fun target h => hstep₁ _ fun acts => by rw [doInvoke_state]; exact hsteps.trans h⟩
  · exact Or.inr ⟨q, vm₁, B, X₁.warmed, X', hpost, hstep₁ _ fun acts => by rw [doInvoke_state]; exact hsteps⟩
theorem vx_callVW (X : Stand p l e R s m args below meth c T locs cells slots) (hexec : p.tables.exec = Jvm.exec) {own C : String} {index : Nat} {y : MethodName} {bytes : ByteArray} {maxL : Nat} {ret : Option FieldType} {hh : List (Nat × Nat × Nat × Nat)}
    (hown : s.vm.findClass own = some m.cls) (hlink : (Cond.methodLink own index y).before args s = true) (hinst : (Cond.instanceMethod y).before args s = true) (hsel : (Cond.selects C y y).before args s = true)
    (hcode : (Cond.codeWith y bytes maxL ret hh).before args s = true) (hy : y.cls ≠ "java/lang/invoke/MethodHandle" ∧ y.cls ≠ "java/lang/invoke/VarHandle")
    {W9 : Nat} {Pre : Pt → Array Value → Prop} {Post : Pt → Array Value → Option Value → Pt → Prop} (hK : Back l R p e below s args y 3 W9 Pre Post)
    {b : Addr} {cellB : Cell} (hcell : T.heap[b]? = some cellB) (hobj : cellB.vm.isStatics = false) (hcls : s.vm.findClass C = some cellB.cls)
    {g : JFrame} (hg : g.method = m) (hsize : g.locals.size = c.maxLocals) {argsL rest : List Value} (hlen : ∀ sig, parseMethodDescriptor y.desc = some sig → argsL.length = sig.parameters.length)
    (hstack : g.stack = argsL.reverse ++ .ref b :: rest) (hW : 2 * g.monitorRoom + (rest.map fun v => v.category).sum ≤ W9) (hdg : decode c.code g.pc = .ok (.invokevirtual index, 3))
    (hpre : ∀ vm₁, s.WarmedH vm₁ → Pre ⟨T.setVm vm₁, locs, cells, slots⟩ (Value.ref b :: argsL).toArray) :
    ∃ (v : Option Value) (vm₁ : Vm) (B : Pt), s.WarmedH vm₁ ∧ Stand p l e R s m args below meth c B.U B.locs B.cells B.slots ∧ Post ⟨T.setVm vm₁, locs, cells, slots⟩ (Value.ref b :: argsL).toArray v B ∧
      ∀ target, Steps p.tables e below (B.U.setTop { g with pc := g.pc + 3, stack := v.toList ++ rest }) target → Steps p.tables e below (T.setTop g) target := by
  obtain ⟨mk, methM, hnamed, hmethM, hstM, habM⟩ := Cond.instanceMethod_spec hinst
  obtain ⟨m8, methM', cM, hn8, hmethM', -, -, -, -, -, -, hsigM⟩ := Cond.codeWith_spec hcode
  cases Option.some.inj (hn8.symm.trans hnamed)
  cases hmethM.symm.trans hmethM'
  obtain ⟨c2, r2, m2, q1, q2, q3, q4, kP, hkP, hkPi⟩ := Cond.selects_spec hsel
  cases hcls.symm.trans q1
  cases (State.methodFound?_of_named hnamed hy).symm.trans q2
  cases hnamed.symm.trans q3
  have hselP : selectMethod e.platform s.vm cellB.cls mk = .method mk := by rw [Launch.admits_selectMethod X.admits]; exact q4
  obtain ⟨vm₁, X₁, hstep₁⟩ := X.invokevirtual hexec hown hlink hnamed hmethM hstM hkP hkPi hy (a := b) (cell := cellB) hcell
    (fun z h => by rw [h] at hobj; cases hobj) hselP hmethM habM hkP hkPi (g := g) hg (argsL := argsL) (rest := rest) (hlen _ hsigM) hstack hdg
  obtain ⟨v, B, X', hpost, hsteps⟩ := hK m meth c ⟨T.setVm vm₁, locs, cells, slots⟩ { g with stack := rest } (.invokevirtual index) mk (Value.ref b :: argsL).toArray X₁ hg hsize hdg hW (X₁.named hnamed) (hpre vm₁ X₁.warmed)
  exact ⟨v, vm₁, B, X₁.warmed, X', hpost, fun target h => hstep₁ _ fun acts => by rw [doInvoke_state]; exact hsteps.trans h⟩
abbrev vx_CVW (R : Room) (s : State) (args : Array Value) (own C : String) (index : Nat) (y : MethodName) (bytes : ByteArray) (maxL : Nat) (ret : Option FieldType) (hh : List (Nat × Nat × Nat × Nat)) (ws : List Cond) (rm : Room) (mc ms n : Nat) : Prop :=
  (rm.cells = mc ∧ rm.slots = ms ∧ rm.frames + 1 ≤ R.frames ∧ 8 + (maxL + 11) + rm.locals ≤ R.locals ∧ (∀ w ∈ ws, ∀ (a' : Array Value) (U : State), s.WarmedH U.vm → w.before a' U = true) ∧ Cond.codeWith y bytes maxL ret hh ∈ ws) ∧
  (Cond.codeWith y bytes maxL ret hh).before args s = true ∧ (Cond.initialized y.cls).before args s = true ∧ (y.cls ≠ "java/lang/invoke/MethodHandle" ∧ y.cls ≠ "java/lang/invoke/VarHandle") ∧
  (∀ sig, parseMethodDescriptor y.desc = some sig → n = sig.parameters.length) ∧ (Cond.methodLink own index y).before args s = true ∧ (Cond.instanceMethod y).before args s = true ∧ (Cond.selects C y y).before args s = true
theorem vx_cwVW {own C : String} {index maxL mc ms : Nat} {y : MethodName} {bytes : ByteArray} {ret : Option FieldType} {hh : List (Nat × Nat × Nat × Nat)} {Ts ws ws' : List Cond} {rm : Room} (n : Nat) (ht : ∀ w ∈ Ts, w.before args s = true) (hT : GoodIn Ts (wsV own index C y ws)) (hw : ws = Cond.codeWith y bytes maxL ret hh :: ws') (hrc : rm.cells = mc) (hrs : rm.slots = ms)
    (hd : y.cls = C ∧ y.cls ≠ "java/lang/invoke/MethodHandle" ∧ y.cls ≠ "java/lang/invoke/VarHandle" ∧ (parseMethodDescriptor y.desc).map (fun d => d.parameters.length) = some n) (hR : rm.frames + 1 ≤ R.frames ∧ 8 + (maxL + 11) + rm.locals ≤ R.locals) :
    vx_CVW R s args own C index y bytes maxL ret hh ws rm mc ms n := by
  obtain ⟨hC, hd⟩ := hd
  subst hC
  have ok : ∀ w ∈ wsV own index y.cls y ws, w.before args s = true := fun w h => ht w (hT w h).1
  have hG : GoodIn Ts ws := fun w h => hT w (by unfold wsV; exact List.mem_append_right _ h)
  have hc : Cond.codeWith y bytes maxL ret hh ∈ ws := by rw [hw]; exact List.mem_cons_self
  refine ⟨⟨hrc, hrs, hR.1, hR.2, pay_in ht hG, hc⟩, ht _ (hG _ hc).1, ok _ (by simp [wsV]), ⟨hd.1, hd.2.1⟩, fun sig h => ?_, ok _ (by simp [wsV]), ok _ (by simp [wsV]), ok _ (by simp [wsV])⟩
  have h2 := hd.2.2
  rw [h] at h2
  exact (Option.some.inj h2).symm
theorem vx_runVW {y : MethodName} {bytes cc : ByteArray} {maxL nL mc ms n index : Nat} {ret : Option FieldType} {hh : List (Nat × Nat × Nat × Nat)} {ws : List Cond} {rm : Room} {Pc : Array Value → State → Prop} {Qc : Array Value → State → Outcome → State → Prop} {free : Addr → Prop} {Ts : List Cond} {own C : String} {b : Addr} {As rest : List Value} {g : JFrame}
    (S : CallFix p m c cc nL s args Ts own) (hM : Met l y ws rm Pc Qc mc ms free) (cw : vx_CVW R s args own C index y bytes maxL ret hh ws rm mc ms n) (hp : PreV s H C b Pc As)
    (hg : g.method = m) (hn : As.length = n) (hsize : g.locals.size = nL) (hstack : g.stack = As.reverse ++ .ref b :: rest) (hW : 2 * g.monitorRoom + (rest.map fun v => v.category).sum ≤ 8) (hdg : decode cc g.pc = .ok (.invokevirtual index, 3)) (hf : cells + mc ≤ R.cells ∧ slots + ms ≤ R.slots) :
    va_Run p l e R s m args below meth c H locs cells slots mc ms g rest (Qc (Value.ref b :: As).toArray) free := by
  obtain ⟨⟨hrc, hrs, hfr, hlo, hws, hcw⟩, hcode, hini, hy, hlen, hl, hin, hse⟩ := cw
  have hK : Back l R p e below s args y 3 8 (PreOf R mc ms Pc) (PostOf Qc mc ms free) := va_backW (hh := hh) (bytes := bytes) (maxL := maxL) (ret := ret) hM hp.1 hrc hrs hfr hlo hws hcw (fun a' U hW => word_at hW (Or.inl (by first | rfl | simp [Cond.onTables, Cond.keeps, Cond.steady])) hini)
  obtain ⟨hx, hb, hml, ho, -⟩ := S
  obtain ⟨-, ⟨cellB, hcB, hoB, hclB⟩, hPc⟩ := hp
  intro T hT X
  obtain ⟨v, vm₁, ⟨U', l2, c2, s2⟩, hW₁, X', ⟨g', mk, t, L, e1, e2, hq, h1, hL, h2, h3⟩, st⟩ := vx_callVW X hx (C := C) (hh := hh) (bytes := bytes) (maxL := maxL) (ret := ret) ho hl hin hse hcode hy hK (by rw [hT]; exact hcB) hoB hclB hg (hsize.trans hml.symm) (argsL := As) (rest := rest) (fun sig h => hn.trans (hlen sig h)) hstack hW (by rw [hb]; exact hdg)
    (fun vm₁ hW₁ => ⟨hf.1, hf.2, hPc (T.setVm vm₁) hT hW₁⟩)
  dsimp only [Pt.U, Pt.locs, Pt.cells, Pt.slots] at X' e1 e2 h1 h2 h3 st
  subst h1; subst h2; subst h3
  exact ⟨v, (T.setVm vm₁).calling g' mk (Value.ref b :: As).toArray, t, U', L, hT, X', hL, e1, e2, hq, st⟩
section
variable {y : MethodName} {bytes cc : ByteArray} {maxL nL mc ms n index : Nat} {ret : Option FieldType} {ws : List Cond} {rm : Room} {Pc : Array Value → State → Prop} {Qc : Array Value → State → Outcome → State → Prop} {XC : String → State → State → Prop} {free : Addr → Prop} {Ts : List Cond} {own C : String} {b : Addr} {As rest : List Value} {g : JFrame}
theorem vx_runVX {hh : List (Nat × Nat × Nat × Nat)} (S : CallFix p m c cc nL s args Ts own) (hM : vx_Met l y ws rm Pc Qc XC mc ms free) (cw : vx_CVW R s args own C index y bytes maxL ret hh ws rm mc ms n) (hp : PreV s H C b Pc As)
    (hg : g.method = m) (hn : As.length = n) (hsize : g.locals.size = nL) (hstack : g.stack = As.reverse ++ .ref b :: rest) (hW : 2 * g.monitorRoom + (rest.map fun v => v.category).sum ≤ 8) (hdg : decode cc g.pc = .ok (.invokevirtual index, 3)) (hf : cells + mc ≤ R.cells ∧ slots + ms ≤ R.slots) :
    vx_Run p l e R s m args below meth c H locs cells slots mc ms g rest (Qc (Value.ref b :: As).toArray) XC free := by
  obtain ⟨⟨hrc, hrs, hfr, hlo, hws, hcw⟩, hcode, hini, hy, hlen, hl, hin, hse⟩ := cw
  have hK : vx_Back l R p e below s args y 3 8 (PreOf R mc ms Pc) (PostOf Qc mc ms free) (vx_Post XC mc ms free) := vx_backW (hh := hh) (bytes := bytes) (maxL := maxL) (ret := ret) hM hp.1 hrc hrs hfr hlo hws hcw (fun a' U hW => word_at hW (Or.inl (by first | rfl | simp [Cond.onTables, Cond.keeps, Cond.steady])) hini)
  obtain ⟨hx, hb, hml, ho, -⟩ := S
  obtain ⟨-, ⟨cellB, hcB, hoB, hclB⟩, hPc⟩ := hp
  intro T hT X
  rcases vx_callVX X hx (C := C) (hh := hh) (bytes := bytes) (maxL := maxL) (ret := ret) ho hl hin hse hcode hy hK (by rw [hT]; exact hcB) hoB hclB hg (hsize.trans hml.symm) (argsL := As) (rest := rest) (fun sig h => hn.trans (hlen sig h)) hstack hW (by rw [hb]; exact hdg)
    (fun vm₁ hW₁ => ⟨hf.1, hf.2, hPc (T.setVm vm₁) hT hW₁⟩) with ⟨v, vm₁, ⟨U', l2, c2, s2⟩, hW₁, X', ⟨g', mk, t, L, e1, e2, hq, h1, hL, h2, h3⟩, st⟩ | ⟨q, vm₁, ⟨U', l2, c2, s2⟩, hW₁, X', ⟨g', mk, t, L, E, ce, e1, e2, hq, hce, hcv, hcl, h1, hL, h2, h3⟩, st⟩
  · dsimp only [Pt.U, Pt.locs, Pt.cells, Pt.slots] at X' e1 e2 h1 h2 h3 st
    subst h1; subst h2; subst h3
    exact Or.inl ⟨v, (T.setVm vm₁).calling g' mk (Value.ref b :: As).toArray, t, U', L, hT, X', hL, e1, e2, hq, st⟩
  · dsimp only [Pt.U, Pt.locs, Pt.cells, Pt.slots] at X' e1 e2 h1 h2 h3 st hcl
    subst h1; subst h2; subst h3
    exact Or.inr ⟨q, (T.setVm vm₁).calling g' mk (Value.ref b :: As).toArray, t, U', L, E, ce, hT, X', hL, e1, e2, hq, hce, hcv, vx_cls hW₁ hcl, st⟩
theorem vx_runSX {hh : List (Nat × Nat × Nat × Nat)} (S : CallFix p m c cc nL s args Ts own) (hM : vx_Met l y ws rm Pc Qc XC mc ms free) (cw : vx_CSW R s args own index y bytes maxL ret hh ws rm mc ms n) (hp : PreS s H Pc As)
    (hg : g.method = m) (hn : As.length = n) (hsize : g.locals.size = nL) (hstack : g.stack = As.reverse ++ rest) (hW : 2 * g.monitorRoom + (rest.map fun v => v.category).sum ≤ 8) (hdg : decode cc g.pc = .ok (.invokestatic index, 3)) (hf : cells + mc ≤ R.cells ∧ slots + ms ≤ R.slots) :
    vx_Run p l e R s m args below meth c H locs cells slots mc ms g rest (Qc As.toArray) XC free := by
  obtain ⟨⟨hrc, hrs, hfr, hlo, hws, hcw⟩, hcode, hini, hy, hlen, hl, hstt⟩ := cw
  have hK : vx_Back l R p e below s args y 3 8 (PreOf R mc ms Pc) (PostOf Qc mc ms free) (vx_Post XC mc ms free) := vx_backW (hh := hh) (bytes := bytes) (maxL := maxL) (ret := ret) hM hp.1 hrc hrs hfr hlo hws hcw (fun a' U hW => word_at hW (Or.inl (by first | rfl | simp [Cond.onTables, Cond.keeps, Cond.steady])) hini)
  obtain ⟨hx, hb, hml, ho, -⟩ := S
  intro T hT X
  rcases vx_callSX X hx (hh := hh) (bytes := bytes) (maxL := maxL) (ret := ret) ho hl hstt hini hcode hy hK hg (hsize.trans hml.symm) (argsL := As) (rest := rest) (fun sig h => hn.trans (hlen sig h)) hstack hW (by rw [hb]; exact hdg)
    (fun vm₁ hW₁ => ⟨hf.1, hf.2, hp.2 (T.setVm vm₁) hT hW₁⟩) with ⟨v, vm₁, ⟨U', l2, c2, s2⟩, hW₁, X', ⟨g', mk, t, L, e1, e2, hq, h1, hL, h2, h3⟩, st⟩ | ⟨q, vm₁, ⟨U', l2, c2, s2⟩, hW₁, X', ⟨g', mk, t, L, E, ce, e1, e2, hq, hce, hcv, hcl, h1, hL, h2, h3⟩, st⟩
  · dsimp only [Pt.U, Pt.locs, Pt.cells, Pt.slots] at X' e1 e2 h1 h2 h3 st
    subst h1; subst h2; subst h3
    exact Or.inl ⟨v, (T.setVm vm₁).calling g' mk As.toArray, t, U', L, hT, X', hL, e1, e2, hq, st⟩
  · dsimp only [Pt.U, Pt.locs, Pt.cells, Pt.slots] at X' e1 e2 h1 h2 h3 st hcl
    subst h1; subst h2; subst h3
    exact Or.inr ⟨q, (T.setVm vm₁).calling g' mk As.toArray, t, U', L, E, ce, hT, X', hL, e1, e2, hq, hce, hcv, vx_cls hW₁ hcl, st⟩
end
end VXH
theorem vx_ofWH {l : Launch} {y : MethodName} {ws ws' : List Cond} {rm : Room} {Pc : Array Value → State → Prop} {Qc : Array Value → State → Outcome → State → Prop} {XC : String → State → State → Prop} {mc ms : Nat} {free : Addr → Prop} {cc : ByteArray} {maxL : Nat} {ret : Option FieldType} {hh : List (Nat × Nat × Nat × Nat)}
    (hy : plainName y.cls = true) (hw : ws = Cond.codeWith y cc maxL ret hh :: ws')
    (body : ∀ p e s m args below meth c s₁, BodyLoose p l y (headSpec ws rm) cc maxL ret e s m args below meth c s₁ → c.maxLocals = maxL → Pc args s →
      W p l e (headSpec ws rm).room s m args below meth c s.heap [] 0 0 (vx_MQ below Qc XC args s mc ms free) (entryFrame m args maxL)) : vx_Met l y ws rm Pc Qc XC mc ms free := by
  refine MetFree.of_bodyS (code := cc) (maxLocals := maxL) (ret := ret) hy ?_ ?_
  · intro args s m h hn
    obtain ⟨m9, meth, c, hn9, h1, h2, h3, h4, -, h5, h6, -⟩ := Cond.codeWith_spec (atoms_spec (ws := ws) h _ (by rw [hw]; exact List.mem_cons_self))
    cases hn.symm.trans hn9
    exact ⟨meth, c, h1, h2, h3, h4, h5, h6⟩
  · intro p e s m args below meth c s₁ B hml hP _
    have hh0 : s₁.heap = s.heap := by rw [B.state]; rfl
    obtain ⟨t, a1, o, b1, b2, b3⟩ := body p e s m args below meth c s₁ B hml hP s₁ hh0 (Stand.of_body B)
    exact ⟨t, o, a1, b1, b2, b3⟩


-- ===== PART A: goes FIRST, ahead of the names: the tables' words, and 'selects' of the own methods out of them =====
def lw_okq (q : MethodName × Nat) : Prop := (q.1.cls ≠ "java/lang/invoke/MethodHandle" ∧ q.1.cls ≠ "java/lang/invoke/VarHandle") ∧ Cond.instantiable q.1.cls q.2 ∈ tables_1 ∧ Cond.privateMethod q.1 ∈ tables_1 ∧ Cond.instanceMethod q.1 ∈ tables_1
theorem lw_p0 : lw_okq (⟨"java/lang/Throwable", "fillInStackTrace", "(I)Ljava/lang/Throwable;"⟩, 6) := ⟨⟨by decide +kernel, by decide +kernel⟩, List.mem_of_getElem? (i := 150) (by decide +kernel), List.mem_of_getElem? (i := 148) (by decide +kernel), List.mem_of_getElem? (i := 149) (by decide +kernel)⟩
theorem lw_p1 : lw_okq (⟨"MomentTree", "append", "(I)V"⟩, 4) := ⟨⟨by decide +kernel, by decide +kernel⟩, List.mem_of_getElem? (i := 17) (by decide +kernel), List.mem_of_getElem? (i := 175) (by decide +kernel), List.mem_of_getElem? (i := 176) (by decide +kernel)⟩
theorem lw_p2 : lw_okq (⟨"MomentTree", "tapeIsKey", "()Z"⟩, 4) := ⟨⟨by decide +kernel, by decide +kernel⟩, List.mem_of_getElem? (i := 17) (by decide +kernel), List.mem_of_getElem? (i := 210) (by decide +kernel), List.mem_of_getElem? (i := 211) (by decide +kernel)⟩
theorem lw_p3 : lw_okq (⟨"MomentTree", "takeTape", "()[B"⟩, 4) := ⟨⟨by decide +kernel, by decide +kernel⟩, List.mem_of_getElem? (i := 17) (by decide +kernel), List.mem_of_getElem? (i := 214) (by decide +kernel), List.mem_of_getElem? (i := 215) (by decide +kernel)⟩
theorem lw_p4 : lw_okq (⟨"MomentTree", "goTo", "(LMomentTree$Version;)I"⟩, 4) := ⟨⟨by decide +kernel, by decide +kernel⟩, List.mem_of_getElem? (i := 17) (by decide +kernel), List.mem_of_getElem? (i := 314) (by decide +kernel), List.mem_of_getElem? (i := 315) (by decide +kernel)⟩
theorem lw_p5 : lw_okq (⟨"MomentTreeModel", "fail", "(I)I"⟩, 10) := ⟨⟨by decide +kernel, by decide +kernel⟩, List.mem_of_getElem? (i := 370) (by decide +kernel), List.mem_of_getElem? (i := 416) (by decide +kernel), List.mem_of_getElem? (i := 417) (by decide +kernel)⟩
theorem lw_p6 : lw_okq (⟨"MomentTreeModel", "before", "(II)I"⟩, 10) := ⟨⟨by decide +kernel, by decide +kernel⟩, List.mem_of_getElem? (i := 370) (by decide +kernel), List.mem_of_getElem? (i := 428) (by decide +kernel), List.mem_of_getElem? (i := 429) (by decide +kernel)⟩
theorem lw_p7 : lw_okq (⟨"MomentTreeModel", "compare", "(III)I"⟩, 10) := ⟨⟨by decide +kernel, by decide +kernel⟩, List.mem_of_getElem? (i := 370) (by decide +kernel), List.mem_of_getElem? (i := 432) (by decide +kernel), List.mem_of_getElem? (i := 433) (by decide +kernel)⟩
theorem lw_p8 : lw_okq (⟨"MomentTreeModel", "moveUp", "(I)V"⟩, 10) := ⟨⟨by decide +kernel, by decide +kernel⟩, List.mem_of_getElem? (i := 370) (by decide +kernel), List.mem_of_getElem? (i := 436) (by decide +kernel), List.mem_of_getElem? (i := 437) (by decide +kernel)⟩
theorem lw_p9 : lw_okq (⟨"MomentTreeModel", "go", "(IZI)I"⟩, 10) := ⟨⟨by decide +kernel, by decide +kernel⟩, List.mem_of_getElem? (i := 370) (by decide +kernel), List.mem_of_getElem? (i := 444) (by decide +kernel), List.mem_of_getElem? (i := 445) (by decide +kernel)⟩
def lw_privs_1 : List (MethodName × Nat) := [(⟨"java/lang/Throwable", "fillInStackTrace", "(I)Ljava/lang/Throwable;"⟩, 6), (⟨"MomentTree", "append", "(I)V"⟩, 4), (⟨"MomentTree", "tapeIsKey", "()Z"⟩, 4), (⟨"MomentTree", "takeTape", "()[B"⟩, 4), (⟨"MomentTree", "goTo", "(LMomentTree$Version;)I"⟩, 4), (⟨"MomentTreeModel", "fail", "(I)I"⟩, 10), (⟨"MomentTreeModel", "before", "(II)I"⟩, 10), (⟨"MomentTreeModel", "compare", "(III)I"⟩, 10), (⟨"MomentTreeModel", "moveUp", "(I)V"⟩, 10), (⟨"MomentTreeModel", "go", "(IZI)I"⟩, 10)]
theorem lw_r1 : ∀ q ∈ lw_privs_1, lw_okq q := List.forall_mem_cons.mpr ⟨lw_p0, List.forall_mem_cons.mpr ⟨lw_p1, List.forall_mem_cons.mpr ⟨lw_p2, List.forall_mem_cons.mpr ⟨lw_p3, List.forall_mem_cons.mpr ⟨lw_p4, List.forall_mem_cons.mpr ⟨lw_p5, List.forall_mem_cons.mpr ⟨lw_p6, List.forall_mem_cons.mpr ⟨lw_p7, List.forall_mem_cons.mpr ⟨lw_p8, List.forall_mem_cons.mpr ⟨lw_p9, fun _ h => absurd h List.not_mem_nil⟩⟩⟩⟩⟩⟩⟩⟩⟩⟩
def lw_privs : List (MethodName × Nat) := lw_privs_1
def lw_tbl : List Cond := k2_sels lw_privs ++ tables_1
theorem lw_privs_ok : ∀ q ∈ lw_privs, lw_okq q := lw_r1
end
section
/-! ===== names: classes, fields, methods, words, decode rows (written by mk_names.py) ===== -/
def R_MT : String := "MomentTree"
def T_MT : u_T := fun k => match k with
  | 0 => ("MomentTree", "tape", "[B", true)
  | 1 => ("MomentTree", "tapeLength", "I", false)
  | 2 => ("MomentTree", "tree", "LMomentTree$Tree;", true)
  | _ => ("MomentTree", "current", "LMomentTree$Version;", false)
def ty_MT : Nat → FieldType := fun k => match k with
  | 0 => .array .byte
  | 1 => .int
  | 2 => .object "MomentTree$Tree"
  | _ => .object "MomentTree$Version"
theorem nm_MT : ∀ a, a < 4 → ∀ b, b < 4 → a ≠ b → (T_MT a).2.1 ≠ (T_MT b).2.1 := by decide +kernel
theorem ok_MT : ∀ k, k < 4 → parseFieldDescriptor (T_MT k).2.2.1 = some (ty_MT k) := by decide +kernel
def R_TR : String := "MomentTree$Tree"
def T_TR : u_T := fun k => match k with
  | 0 => ("MomentTree$Tree", "root", "LMomentTree$Version;", false)
  | _ => ("MomentTree$Tree", "versions", "I", false)
def ty_TR : Nat → FieldType := fun k => match k with
  | 0 => .object "MomentTree$Version"
  | _ => .int
theorem nm_TR : ∀ a, a < 2 → ∀ b, b < 2 → a ≠ b → (T_TR a).2.1 ≠ (T_TR b).2.1 := by decide +kernel
theorem ok_TR : ∀ k, k < 2 → parseFieldDescriptor (T_TR k).2.2.1 = some (ty_TR k) := by decide +kernel
def R_VE : String := "MomentTree$Version"
def T_VE : u_T := fun k => match k with
  | 0 => ("MomentTree$Version", "key", "[B", true)
  | 1 => ("MomentTree$Version", "moment", "I", true)
  | 2 => ("MomentTree$Version", "place", "I", false)
  | 3 => ("MomentTree$Version", "size", "I", false)
  | 4 => ("MomentTree$Version", "height", "I", false)
  | 5 => ("MomentTree$Version", "left", "LMomentTree$Version;", false)
  | _ => ("MomentTree$Version", "right", "LMomentTree$Version;", false)
def ty_VE : Nat → FieldType := fun k => match k with
  | 0 => .array .byte
  | 1 => .int
  | 2 => .int
  | 3 => .int
  | 4 => .int
  | 5 => .object "MomentTree$Version"
  | _ => .object "MomentTree$Version"
theorem nm_VE : ∀ a, a < 7 → ∀ b, b < 7 → a ≠ b → (T_VE a).2.1 ≠ (T_VE b).2.1 := by decide +kernel
theorem ok_VE : ∀ k, k < 7 → parseFieldDescriptor (T_VE k).2.2.1 = some (ty_VE k) := by decide +kernel
def R_MO : String := "MomentTreeModel"
def T_MO : u_T := fun k => match k with
  | 0 => ("MomentTreeModel", "failed", "I", false)
  | 1 => ("MomentTreeModel", "tape", "[B", true)
  | 2 => ("MomentTreeModel", "taped", "I", false)
  | 3 => ("MomentTreeModel", "keys", "[B", true)
  | 4 => ("MomentTreeModel", "lengths", "[I", true)
  | 5 => ("MomentTreeModel", "moments", "[I", true)
  | 6 => ("MomentTreeModel", "places", "[I", true)
  | 7 => ("MomentTreeModel", "sizes", "[I", true)
  | 8 => ("MomentTreeModel", "size", "I", false)
  | _ => ("MomentTreeModel", "at", "I", false)
def ty_MO : Nat → FieldType := fun k => match k with
  | 0 => .int
  | 1 => .array .byte
  | 2 => .int
  | 3 => .array .byte
  | 4 => .array .int
  | 5 => .array .int
  | 6 => .array .int
  | 7 => .array .int
  | 8 => .int
  | _ => .int
theorem nm_MO : ∀ a, a < 10 → ∀ b, b < 10 → a ≠ b → (T_MO a).2.1 ≠ (T_MO b).2.1 := by decide +kernel
theorem ok_MO : ∀ k, k < 10 → parseFieldDescriptor (T_MO k).2.2.1 = some (ty_MO k) := by decide +kernel
abbrev cls_L : List vw_C := [(R_MT, T_MT, 4), (R_TR, T_TR, 2), (R_VE, T_VE, 7), (R_MO, T_MO, 10)]
def R_LA : String := "MomentTreeLaw"
abbrev b_MT_init : ByteArray := prog_1_method_1_code
abbrev y_MT_init : MethodName := ⟨"MomentTree", "<init>", "()V"⟩
abbrev b_TR_init : ByteArray := prog_2_method_1_code
abbrev y_TR_init : MethodName := ⟨"MomentTree$Tree", "<init>", "()V"⟩
abbrev b_MT_clear : ByteArray := prog_1_method_11_code
abbrev y_MT_clear : MethodName := ⟨"MomentTree", "clear", "()I"⟩
abbrev b_TR_empty : ByteArray := prog_2_method_4_code
abbrev y_TR_empty : MethodName := ⟨"MomentTree$Tree", "empty", "()V"⟩
abbrev b_MT_count : ByteArray := prog_1_method_12_code
abbrev y_MT_count : MethodName := ⟨"MomentTree", "count", "()I"⟩
abbrev b_TR_countIfSound : ByteArray := prog_2_method_5_code
abbrev y_TR_countIfSound : MethodName := ⟨"MomentTree$Tree", "countIfSound", "()I"⟩
abbrev b_TR_countSound : ByteArray := prog_2_method_13_code
abbrev y_TR_countSound : MethodName := ⟨"MomentTree$Tree", "countSound", "(LMomentTree$Version;LMomentTree$Version;LMomentTree$Version;I)I"⟩
abbrev b_TR_isBalanced : ByteArray := prog_2_method_14_code
abbrev y_TR_isBalanced : MethodName := ⟨"MomentTree$Tree", "isBalanced", "(LMomentTree$Version;)Z"⟩
abbrev b_TR_leaning : ByteArray := prog_2_method_12_code
abbrev y_TR_leaning : MethodName := ⟨"MomentTree$Tree", "leaning", "(LMomentTree$Version;)I"⟩
abbrev b_TR_heightOf : ByteArray := prog_2_method_10_code
abbrev y_TR_heightOf : MethodName := ⟨"MomentTree$Tree", "heightOf", "(LMomentTree$Version;)I"⟩
abbrev b_TR_heightFromSides : ByteArray := prog_2_method_11_code
abbrev y_TR_heightFromSides : MethodName := ⟨"MomentTree$Tree", "heightFromSides", "(LMomentTree$Version;)I"⟩
abbrev b_TR_isBetween : ByteArray := prog_2_method_15_code
abbrev y_TR_isBetween : MethodName := ⟨"MomentTree$Tree", "isBetween", "(LMomentTree$Version;LMomentTree$Version;LMomentTree$Version;)Z"⟩
abbrev b_VE_orderOf : ByteArray := prog_3_method_2_code
abbrev y_VE_orderOf : MethodName := ⟨"MomentTree$Version", "orderOf", "([BI)I"⟩
abbrev b_VE_orderOfKeys : ByteArray := prog_3_method_3_code
abbrev y_VE_orderOfKeys : MethodName := ⟨"MomentTree$Version", "orderOfKeys", "([B[B)I"⟩
abbrev b_JI_compare : ByteArray := prog_11_method_40_code
abbrev y_JI_compare : MethodName := ⟨"java/lang/Integer", "compare", "(II)I"⟩
abbrev b_LA_feed : ByteArray := method_3_code
abbrev y_LA_feed : MethodName := ⟨"MomentTreeLaw", "feed", "(LMomentTree;IIIII[J)I"⟩
abbrev b_MT_feed : ByteArray := prog_1_method_2_code
abbrev y_MT_feed : MethodName := ⟨"MomentTree", "feed", "(IIIII)I"⟩
abbrev b_MT_append : ByteArray := prog_1_method_13_code
abbrev y_MT_append : MethodName := ⟨"MomentTree", "append", "(I)V"⟩
abbrev b_LA_end : ByteArray := method_4_code
abbrev y_LA_end : MethodName := ⟨"MomentTreeLaw", "end", "(LMomentTree;I[J)I"⟩
abbrev b_MT_end : ByteArray := prog_1_method_3_code
abbrev y_MT_end : MethodName := ⟨"MomentTree", "end", "(I)I"⟩
abbrev b_LA_put : ByteArray := method_5_code
abbrev y_LA_put : MethodName := ⟨"MomentTreeLaw", "put", "(LMomentTree;III[J)I"⟩
abbrev b_MT_put : ByteArray := prog_1_method_4_code
abbrev y_MT_put : MethodName := ⟨"MomentTree", "put", "(III)I"⟩
abbrev b_MT_tapeIsKey : ByteArray := prog_1_method_14_code
abbrev y_MT_tapeIsKey : MethodName := ⟨"MomentTree", "tapeIsKey", "()Z"⟩
abbrev b_MT_takeTape : ByteArray := prog_1_method_15_code
abbrev y_MT_takeTape : MethodName := ⟨"MomentTree", "takeTape", "()[B"⟩
abbrev b_JA_copyOf : ByteArray := prog_16_method_121_code
abbrev y_JA_copyOf : MethodName := ⟨"java/util/Arrays", "copyOf", "([BI)[B"⟩
abbrev b_TR_firstFrom : ByteArray := prog_2_method_2_code
abbrev y_TR_firstFrom : MethodName := ⟨"MomentTree$Tree", "firstFrom", "([BIZ)LMomentTree$Version;"⟩
abbrev b_VE_init : ByteArray := prog_3_method_1_code
abbrev y_VE_init : MethodName := ⟨"MomentTree$Version", "<init>", "([BIII)V"⟩
abbrev b_TR_add : ByteArray := prog_2_method_3_code
abbrev y_TR_add : MethodName := ⟨"MomentTree$Tree", "add", "(LMomentTree$Version;)V"⟩
abbrev b_TR_withAdded : ByteArray := prog_2_method_6_code
abbrev y_TR_withAdded : MethodName := ⟨"MomentTree$Tree", "withAdded", "(LMomentTree$Version;LMomentTree$Version;I)LMomentTree$Version;"⟩
abbrev b_TR_balanced : ByteArray := prog_2_method_7_code
abbrev y_TR_balanced : MethodName := ⟨"MomentTree$Tree", "balanced", "(LMomentTree$Version;)LMomentTree$Version;"⟩
abbrev b_TR_turnedLeft : ByteArray := prog_2_method_9_code
abbrev y_TR_turnedLeft : MethodName := ⟨"MomentTree$Tree", "turnedLeft", "(LMomentTree$Version;)LMomentTree$Version;"⟩
abbrev b_TR_turnedRight : ByteArray := prog_2_method_8_code
abbrev y_TR_turnedRight : MethodName := ⟨"MomentTree$Tree", "turnedRight", "(LMomentTree$Version;)LMomentTree$Version;"⟩
abbrev b_LA_find : ByteArray := method_6_code
abbrev y_LA_find : MethodName := ⟨"MomentTreeLaw", "find", "(LMomentTree;I[J)I"⟩
abbrev b_MT_find : ByteArray := prog_1_method_5_code
abbrev y_MT_find : MethodName := ⟨"MomentTree", "find", "(I)I"⟩
abbrev b_MT_goTo : ByteArray := prog_1_method_16_code
abbrev y_MT_goTo : MethodName := ⟨"MomentTree", "goTo", "(LMomentTree$Version;)I"⟩
abbrev b_LA_seek : ByteArray := method_7_code
abbrev y_LA_seek : MethodName := ⟨"MomentTreeLaw", "seek", "(LMomentTree;IZ[J)I"⟩
abbrev b_MT_seek : ByteArray := prog_1_method_6_code
abbrev y_MT_seek : MethodName := ⟨"MomentTree", "seek", "(IZ)I"⟩
abbrev b_LA_next : ByteArray := method_8_code
abbrev y_LA_next : MethodName := ⟨"MomentTreeLaw", "next", "(LMomentTree;[J)I"⟩
abbrev b_MT_next : ByteArray := prog_1_method_7_code
abbrev y_MT_next : MethodName := ⟨"MomentTree", "next", "()I"⟩
abbrev b_LA_first : ByteArray := method_9_code
abbrev y_LA_first : MethodName := ⟨"MomentTreeLaw", "first", "(LMomentTree;[J)I"⟩
abbrev b_MT_first : ByteArray := prog_1_method_8_code
abbrev y_MT_first : MethodName := ⟨"MomentTree", "first", "()I"⟩
abbrev b_LA_current : ByteArray := method_10_code
abbrev y_LA_current : MethodName := ⟨"MomentTreeLaw", "current", "(LMomentTree;I[J)I"⟩
abbrev b_MT_current : ByteArray := prog_1_method_9_code
abbrev y_MT_current : MethodName := ⟨"MomentTree", "current", "(I)I"⟩
abbrev b_LA_word : ByteArray := method_11_code
abbrev y_LA_word : MethodName := ⟨"MomentTreeLaw", "word", "(LMomentTree;I[J)I"⟩
abbrev b_MT_word : ByteArray := prog_1_method_10_code
abbrev y_MT_word : MethodName := ⟨"MomentTree", "word", "(I)J"⟩
abbrev b_MO_init : ByteArray := prog_5_method_1_code
abbrev y_MO_init : MethodName := ⟨"MomentTreeModel", "<init>", "()V"⟩
abbrev b_MO_thrown : ByteArray := prog_5_method_2_code
abbrev y_MO_thrown : MethodName := ⟨"MomentTreeModel", "thrown", "()I"⟩
abbrev b_MO_feed : ByteArray := prog_5_method_4_code
abbrev y_MO_feed : MethodName := ⟨"MomentTreeModel", "feed", "(IIIII)I"⟩
abbrev b_MO_fail : ByteArray := prog_5_method_3_code
abbrev y_MO_fail : MethodName := ⟨"MomentTreeModel", "fail", "(I)I"⟩
abbrev b_MO_end : ByteArray := prog_5_method_5_code
abbrev y_MO_end : MethodName := ⟨"MomentTreeModel", "end", "(I)I"⟩
abbrev b_MO_put : ByteArray := prog_5_method_9_code
abbrev y_MO_put : MethodName := ⟨"MomentTreeModel", "put", "(III)I"⟩
abbrev b_MO_before : ByteArray := prog_5_method_7_code
abbrev y_MO_before : MethodName := ⟨"MomentTreeModel", "before", "(II)I"⟩
abbrev b_MO_compare : ByteArray := prog_5_method_6_code
abbrev y_MO_compare : MethodName := ⟨"MomentTreeModel", "compare", "(III)I"⟩
abbrev b_MO_moveUp : ByteArray := prog_5_method_8_code
abbrev y_MO_moveUp : MethodName := ⟨"MomentTreeModel", "moveUp", "(I)V"⟩
abbrev b_MO_find : ByteArray := prog_5_method_11_code
abbrev y_MO_find : MethodName := ⟨"MomentTreeModel", "find", "(I)I"⟩
abbrev b_MO_go : ByteArray := prog_5_method_10_code
abbrev y_MO_go : MethodName := ⟨"MomentTreeModel", "go", "(IZI)I"⟩
abbrev b_MO_seek : ByteArray := prog_5_method_12_code
abbrev y_MO_seek : MethodName := ⟨"MomentTreeModel", "seek", "(IZ)I"⟩
abbrev b_MO_next : ByteArray := prog_5_method_13_code
abbrev y_MO_next : MethodName := ⟨"MomentTreeModel", "next", "()I"⟩
abbrev b_MO_first : ByteArray := prog_5_method_14_code
abbrev y_MO_first : MethodName := ⟨"MomentTreeModel", "first", "()I"⟩
abbrev b_MO_current : ByteArray := prog_5_method_15_code
abbrev y_MO_current : MethodName := ⟨"MomentTreeModel", "current", "(I)I"⟩
abbrev b_MO_word : ByteArray := prog_5_method_16_code
abbrev y_MO_word : MethodName := ⟨"MomentTreeModel", "word", "(I)J"⟩
abbrev b_MO_clear : ByteArray := prog_5_method_17_code
abbrev y_MO_clear : MethodName := ⟨"MomentTreeModel", "clear", "()I"⟩
abbrev b_MO_count : ByteArray := prog_5_method_18_code
abbrev y_MO_count : MethodName := ⟨"MomentTreeModel", "count", "()I"⟩
abbrev b_LA_law : ByteArray := code
abbrev y_LA_law : MethodName := ⟨"MomentTreeLaw", "law", "([I)Z"⟩
def tb_ws : List Cond := lw_tbl.filter goodWord
theorem tb_in {w : Cond} {i : Nat} (h : lw_tbl[i]? = some w) (hg : goodWord w = true) : w ∈ tb_ws := List.mem_filter.mpr ⟨List.mem_of_getElem? h, hg⟩
theorem wse_MT_append : Cond.selects "MomentTree" y_MT_append y_MT_append ∈ tb_ws := tb_in (i := 1) (by decide +kernel) (by decide +kernel)
theorem wse_MT_tapeIsKey : Cond.selects "MomentTree" y_MT_tapeIsKey y_MT_tapeIsKey ∈ tb_ws := tb_in (i := 2) (by decide +kernel) (by decide +kernel)
theorem wse_MT_takeTape : Cond.selects "MomentTree" y_MT_takeTape y_MT_takeTape ∈ tb_ws := tb_in (i := 3) (by decide +kernel) (by decide +kernel)
theorem wse_MT_goTo : Cond.selects "MomentTree" y_MT_goTo y_MT_goTo ∈ tb_ws := tb_in (i := 4) (by decide +kernel) (by decide +kernel)
theorem wse_MO_fail : Cond.selects "MomentTreeModel" y_MO_fail y_MO_fail ∈ tb_ws := tb_in (i := 5) (by decide +kernel) (by decide +kernel)
theorem wse_MO_before : Cond.selects "MomentTreeModel" y_MO_before y_MO_before ∈ tb_ws := tb_in (i := 6) (by decide +kernel) (by decide +kernel)
theorem wse_MO_compare : Cond.selects "MomentTreeModel" y_MO_compare y_MO_compare ∈ tb_ws := tb_in (i := 7) (by decide +kernel) (by decide +kernel)
theorem wse_MO_moveUp : Cond.selects "MomentTreeModel" y_MO_moveUp y_MO_moveUp ∈ tb_ws := tb_in (i := 8) (by decide +kernel) (by decide +kernel)
theorem wse_MO_go : Cond.selects "MomentTreeModel" y_MO_go y_MO_go ∈ tb_ws := tb_in (i := 9) (by decide +kernel) (by decide +kernel)
theorem wi_LA : Cond.initialized "MomentTreeLaw" ∈ tb_ws := tb_in (i := 10) (by decide +kernel) (by decide +kernel)
theorem wi_MT : Cond.initialized "MomentTree" ∈ tb_ws := tb_in (i := 11) (by decide +kernel) (by decide +kernel)
theorem wi_TR : Cond.initialized "MomentTree$Tree" ∈ tb_ws := tb_in (i := 12) (by decide +kernel) (by decide +kernel)
theorem wi_MO : Cond.initialized "MomentTreeModel" ∈ tb_ws := tb_in (i := 13) (by decide +kernel) (by decide +kernel)
theorem wi_JT : Cond.initialized "java/lang/Throwable" ∈ tb_ws := tb_in (i := 14) (by decide +kernel) (by decide +kernel)
theorem wi_JE : Cond.initialized "java/lang/Exception" ∈ tb_ws := tb_in (i := 15) (by decide +kernel) (by decide +kernel)
theorem wi_JR : Cond.initialized "java/lang/RuntimeException" ∈ tb_ws := tb_in (i := 16) (by decide +kernel) (by decide +kernel)
theorem wi_IO : Cond.initialized "java/lang/IndexOutOfBoundsException" ∈ tb_ws := tb_in (i := 17) (by decide +kernel) (by decide +kernel)
theorem wi_IA : Cond.initialized "java/lang/IllegalArgumentException" ∈ tb_ws := tb_in (i := 18) (by decide +kernel) (by decide +kernel)
theorem wi_JA : Cond.initialized "java/util/Arrays" ∈ tb_ws := tb_in (i := 19) (by decide +kernel) (by decide +kernel)
theorem wi_JM : Cond.initialized "java/lang/Math" ∈ tb_ws := tb_in (i := 20) (by decide +kernel) (by decide +kernel)
theorem wi_JS : Cond.initialized "java/lang/System" ∈ tb_ws := tb_in (i := 21) (by decide +kernel) (by decide +kernel)
theorem wi_VE : Cond.initialized "MomentTree$Version" ∈ tb_ws := tb_in (i := 22) (by decide +kernel) (by decide +kernel)
theorem wi_JI : Cond.initialized "java/lang/Integer" ∈ tb_ws := tb_in (i := 23) (by decide +kernel) (by decide +kernel)
theorem wi_IS : Cond.initialized "java/lang/IllegalStateException" ∈ tb_ws := tb_in (i := 24) (by decide +kernel) (by decide +kernel)
theorem wi_NS : Cond.initialized "java/util/NoSuchElementException" ∈ tb_ws := tb_in (i := 25) (by decide +kernel) (by decide +kernel)
theorem wc_LA_8 : Cond.classLink "MomentTreeLaw" 8 "MomentTree" ∈ tb_ws := tb_in (i := 26) (by decide +kernel) (by decide +kernel)
theorem win_MT : Cond.instantiable "MomentTree" 4 ∈ tb_ws := tb_in (i := 27) (by decide +kernel) (by decide +kernel)
theorem wl_LA_50 : Cond.methodLink "MomentTreeLaw" 50 y_MT_init ∈ tb_ws := tb_in (i := 28) (by decide +kernel) (by decide +kernel)
theorem wim_MT_init : Cond.instanceMethod y_MT_init ∈ tb_ws := tb_in (i := 29) (by decide +kernel) (by decide +kernel)
theorem wco_MT_init : Cond.code y_MT_init b_MT_init 1 none ∈ tb_ws := tb_in (i := 30) (by decide +kernel) (by decide +kernel)
theorem wl_MT_1 : Cond.methodLink "MomentTree" 1 Lib.objectInit ∈ tb_ws := tb_in (i := 31) (by decide +kernel) (by decide +kernel)
theorem wim_JO_init : Cond.instanceMethod Lib.objectInit ∈ tb_ws := tb_in (i := 32) (by decide +kernel) (by decide +kernel)
theorem wco_JO_init : Cond.code Lib.objectInit ⟨#[0xb1]⟩ 1 none ∈ tb_ws := tb_in (i := 33) (by decide +kernel) (by decide +kernel)
theorem wc_MT_17 : Cond.classLink "MomentTree" 17 "MomentTree$Tree" ∈ tb_ws := tb_in (i := 34) (by decide +kernel) (by decide +kernel)
theorem win_TR : Cond.instantiable "MomentTree$Tree" 2 ∈ tb_ws := tb_in (i := 35) (by decide +kernel) (by decide +kernel)
theorem wl_MT_19 : Cond.methodLink "MomentTree" 19 y_TR_init ∈ tb_ws := tb_in (i := 36) (by decide +kernel) (by decide +kernel)
theorem wim_TR_init : Cond.instanceMethod y_TR_init ∈ tb_ws := tb_in (i := 37) (by decide +kernel) (by decide +kernel)
theorem wco_TR_init : Cond.code y_TR_init b_TR_init 1 none ∈ tb_ws := tb_in (i := 38) (by decide +kernel) (by decide +kernel)
theorem wl_TR_1 : Cond.methodLink "MomentTree$Tree" 1 Lib.objectInit ∈ tb_ws := tb_in (i := 39) (by decide +kernel) (by decide +kernel)
theorem wf_TR_7 : Cond.fieldLink "MomentTree$Tree" 7 "MomentTree$Tree" "root" "LMomentTree$Version;" ∈ tb_ws := tb_in (i := 40) (by decide +kernel) (by decide +kernel)
theorem wf_TR_13 : Cond.fieldLink "MomentTree$Tree" 13 "MomentTree$Tree" "versions" "I" ∈ tb_ws := tb_in (i := 41) (by decide +kernel) (by decide +kernel)
theorem wf_MT_62 : Cond.fieldLink "MomentTree" 62 "MomentTree$Tree" "versions" "I" ∈ tb_ws := tb_in (i := 42) (by decide +kernel) (by decide +kernel)
theorem wa_byte : Cond.arrayClass .byte ∈ tb_ws := tb_in (i := 48) (by decide +kernel) (by decide +kernel)
theorem wf_MT_9 : Cond.fieldLink "MomentTree" 9 "MomentTree" "tape" "[B" ∈ tb_ws := tb_in (i := 49) (by decide +kernel) (by decide +kernel)
theorem wf_MT_13 : Cond.fieldLink "MomentTree" 13 "MomentTree" "tapeLength" "I" ∈ tb_ws := tb_in (i := 50) (by decide +kernel) (by decide +kernel)
theorem wf_MT_20 : Cond.fieldLink "MomentTree" 20 "MomentTree" "tree" "LMomentTree$Tree;" ∈ tb_ws := tb_in (i := 51) (by decide +kernel) (by decide +kernel)
theorem wf_MT_24 : Cond.fieldLink "MomentTree" 24 "MomentTree" "current" "LMomentTree$Version;" ∈ tb_ws := tb_in (i := 52) (by decide +kernel) (by decide +kernel)
theorem wl_LA_91 : Cond.methodLink "MomentTreeLaw" 91 y_MT_clear ∈ tb_ws := tb_in (i := 62) (by decide +kernel) (by decide +kernel)
theorem wim_MT_clear : Cond.instanceMethod y_MT_clear ∈ tb_ws := tb_in (i := 63) (by decide +kernel) (by decide +kernel)
theorem wse_MT_clear : Cond.selects "MomentTree" y_MT_clear y_MT_clear ∈ tb_ws := tb_in (i := 64) (by decide +kernel) (by decide +kernel)
theorem wco_MT_clear : Cond.code y_MT_clear b_MT_clear 2 (some .int) ∈ tb_ws := tb_in (i := 65) (by decide +kernel) (by decide +kernel)
theorem wl_MT_95 : Cond.methodLink "MomentTree" 95 y_TR_empty ∈ tb_ws := tb_in (i := 66) (by decide +kernel) (by decide +kernel)
theorem wim_TR_empty : Cond.instanceMethod y_TR_empty ∈ tb_ws := tb_in (i := 67) (by decide +kernel) (by decide +kernel)
theorem wse_TR_empty : Cond.selects "MomentTree$Tree" y_TR_empty y_TR_empty ∈ tb_ws := tb_in (i := 68) (by decide +kernel) (by decide +kernel)
theorem wco_TR_empty : Cond.code y_TR_empty b_TR_empty 1 none ∈ tb_ws := tb_in (i := 69) (by decide +kernel) (by decide +kernel)
theorem wl_LA_95 : Cond.methodLink "MomentTreeLaw" 95 y_MT_count ∈ tb_ws := tb_in (i := 70) (by decide +kernel) (by decide +kernel)
theorem wim_MT_count : Cond.instanceMethod y_MT_count ∈ tb_ws := tb_in (i := 71) (by decide +kernel) (by decide +kernel)
theorem wse_MT_count : Cond.selects "MomentTree" y_MT_count y_MT_count ∈ tb_ws := tb_in (i := 72) (by decide +kernel) (by decide +kernel)
theorem wco_MT_count : Cond.code y_MT_count b_MT_count 1 (some .int) ∈ tb_ws := tb_in (i := 73) (by decide +kernel) (by decide +kernel)
theorem wl_MT_98 : Cond.methodLink "MomentTree" 98 y_TR_countIfSound ∈ tb_ws := tb_in (i := 74) (by decide +kernel) (by decide +kernel)
theorem wim_TR_countIfSound : Cond.instanceMethod y_TR_countIfSound ∈ tb_ws := tb_in (i := 75) (by decide +kernel) (by decide +kernel)
theorem wse_TR_countIfSound : Cond.selects "MomentTree$Tree" y_TR_countIfSound y_TR_countIfSound ∈ tb_ws := tb_in (i := 76) (by decide +kernel) (by decide +kernel)
theorem wco_TR_countIfSound : Cond.code y_TR_countIfSound b_TR_countIfSound 1 (some .int) ∈ tb_ws := tb_in (i := 77) (by decide +kernel) (by decide +kernel)
theorem wl_TR_33 : Cond.methodLink "MomentTree$Tree" 33 y_TR_countSound ∈ tb_ws := tb_in (i := 78) (by decide +kernel) (by decide +kernel)
theorem wst_TR_countSound : Cond.static y_TR_countSound ∈ tb_ws := tb_in (i := 79) (by decide +kernel) (by decide +kernel)
theorem wco_TR_countSound : Cond.code y_TR_countSound b_TR_countSound 6 (some .int) ∈ tb_ws := tb_in (i := 80) (by decide +kernel) (by decide +kernel)
theorem wl_TR_73 : Cond.methodLink "MomentTree$Tree" 73 y_TR_isBalanced ∈ tb_ws := tb_in (i := 81) (by decide +kernel) (by decide +kernel)
theorem wst_TR_isBalanced : Cond.static y_TR_isBalanced ∈ tb_ws := tb_in (i := 82) (by decide +kernel) (by decide +kernel)
theorem wco_TR_isBalanced : Cond.code y_TR_isBalanced b_TR_isBalanced 2 (some .boolean) ∈ tb_ws := tb_in (i := 83) (by decide +kernel) (by decide +kernel)
theorem wl_TR_55 : Cond.methodLink "MomentTree$Tree" 55 y_TR_leaning ∈ tb_ws := tb_in (i := 84) (by decide +kernel) (by decide +kernel)
theorem wst_TR_leaning : Cond.static y_TR_leaning ∈ tb_ws := tb_in (i := 85) (by decide +kernel) (by decide +kernel)
theorem wco_TR_leaning : Cond.code y_TR_leaning b_TR_leaning 1 (some .int) ∈ tb_ws := tb_in (i := 86) (by decide +kernel) (by decide +kernel)
theorem wl_TR_64 : Cond.methodLink "MomentTree$Tree" 64 y_TR_heightOf ∈ tb_ws := tb_in (i := 87) (by decide +kernel) (by decide +kernel)
theorem wst_TR_heightOf : Cond.static y_TR_heightOf ∈ tb_ws := tb_in (i := 88) (by decide +kernel) (by decide +kernel)
theorem wco_TR_heightOf : Cond.code y_TR_heightOf b_TR_heightOf 1 (some .int) ∈ tb_ws := tb_in (i := 89) (by decide +kernel) (by decide +kernel)
theorem wl_TR_48 : Cond.methodLink "MomentTree$Tree" 48 y_TR_heightFromSides ∈ tb_ws := tb_in (i := 90) (by decide +kernel) (by decide +kernel)
theorem wst_TR_heightFromSides : Cond.static y_TR_heightFromSides ∈ tb_ws := tb_in (i := 91) (by decide +kernel) (by decide +kernel)
theorem wco_TR_heightFromSides : Cond.code y_TR_heightFromSides b_TR_heightFromSides 1 (some .int) ∈ tb_ws := tb_in (i := 92) (by decide +kernel) (by decide +kernel)
theorem wl_TR_67 : Cond.methodLink "MomentTree$Tree" 67 Lib.Math.max.name ∈ tb_ws := tb_in (i := 93) (by decide +kernel) (by decide +kernel)
theorem wst_JM_max : Cond.static Lib.Math.max.name ∈ tb_ws := tb_in (i := 94) (by decide +kernel) (by decide +kernel)
theorem wco_JM_max : Cond.code Lib.Math.max.name Lib.Math.max.code 2 (some .int) ∈ tb_ws := tb_in (i := 95) (by decide +kernel) (by decide +kernel)
theorem wl_TR_77 : Cond.methodLink "MomentTree$Tree" 77 y_TR_isBetween ∈ tb_ws := tb_in (i := 96) (by decide +kernel) (by decide +kernel)
theorem wst_TR_isBetween : Cond.static y_TR_isBetween ∈ tb_ws := tb_in (i := 97) (by decide +kernel) (by decide +kernel)
theorem wco_TR_isBetween : Cond.code y_TR_isBetween b_TR_isBetween 3 (some .boolean) ∈ tb_ws := tb_in (i := 98) (by decide +kernel) (by decide +kernel)
theorem wl_TR_17 : Cond.methodLink "MomentTree$Tree" 17 y_VE_orderOf ∈ tb_ws := tb_in (i := 99) (by decide +kernel) (by decide +kernel)
theorem wim_VE_orderOf : Cond.instanceMethod y_VE_orderOf ∈ tb_ws := tb_in (i := 100) (by decide +kernel) (by decide +kernel)
theorem wse_VE_orderOf : Cond.selects "MomentTree$Version" y_VE_orderOf y_VE_orderOf ∈ tb_ws := tb_in (i := 101) (by decide +kernel) (by decide +kernel)
theorem wco_VE_orderOf : Cond.code y_VE_orderOf b_VE_orderOf 4 (some .int) ∈ tb_ws := tb_in (i := 102) (by decide +kernel) (by decide +kernel)
theorem wl_VE_33 : Cond.methodLink "MomentTree$Version" 33 y_VE_orderOfKeys ∈ tb_ws := tb_in (i := 103) (by decide +kernel) (by decide +kernel)
theorem wst_VE_orderOfKeys : Cond.static y_VE_orderOfKeys ∈ tb_ws := tb_in (i := 104) (by decide +kernel) (by decide +kernel)
theorem wco_VE_orderOfKeys : Cond.code y_VE_orderOfKeys b_VE_orderOfKeys 5 (some .int) ∈ tb_ws := tb_in (i := 105) (by decide +kernel) (by decide +kernel)
theorem wl_VE_43 : Cond.methodLink "MomentTree$Version" 43 Lib.Math.min.name ∈ tb_ws := tb_in (i := 106) (by decide +kernel) (by decide +kernel)
theorem wst_JM_min : Cond.static Lib.Math.min.name ∈ tb_ws := tb_in (i := 107) (by decide +kernel) (by decide +kernel)
theorem wco_JM_min : Cond.code Lib.Math.min.name Lib.Math.min.code 2 (some .int) ∈ tb_ws := tb_in (i := 108) (by decide +kernel) (by decide +kernel)
theorem wl_VE_37 : Cond.methodLink "MomentTree$Version" 37 y_JI_compare ∈ tb_ws := tb_in (i := 109) (by decide +kernel) (by decide +kernel)
theorem wst_JI_compare : Cond.static y_JI_compare ∈ tb_ws := tb_in (i := 110) (by decide +kernel) (by decide +kernel)
theorem wco_JI_compare : Cond.code y_JI_compare b_JI_compare 2 (some .int) ∈ tb_ws := tb_in (i := 111) (by decide +kernel) (by decide +kernel)
theorem wl_LA_54 : Cond.methodLink "MomentTreeLaw" 54 y_LA_feed ∈ tb_ws := tb_in (i := 112) (by decide +kernel) (by decide +kernel)
theorem wst_LA_feed : Cond.static y_LA_feed ∈ tb_ws := tb_in (i := 113) (by decide +kernel) (by decide +kernel)
theorem wcw_LA_feed : Cond.codeWith y_LA_feed b_LA_feed 8 (some .int) [(0, 16, 19, 13)] ∈ tb_ws := tb_in (i := 114) (by decide +kernel) (by decide +kernel)
theorem wc_LA_13 : Cond.classLink "MomentTreeLaw" 13 "java/lang/IndexOutOfBoundsException" ∈ tb_ws := tb_in (i := 115) (by decide +kernel) (by decide +kernel)
theorem wl_LA_7 : Cond.methodLink "MomentTreeLaw" 7 y_MT_feed ∈ tb_ws := tb_in (i := 116) (by decide +kernel) (by decide +kernel)
theorem wim_MT_feed : Cond.instanceMethod y_MT_feed ∈ tb_ws := tb_in (i := 117) (by decide +kernel) (by decide +kernel)
theorem wse_MT_feed : Cond.selects "MomentTree" y_MT_feed y_MT_feed ∈ tb_ws := tb_in (i := 118) (by decide +kernel) (by decide +kernel)
theorem wco_MT_feed : Cond.code y_MT_feed b_MT_feed 6 (some .int) ∈ tb_ws := tb_in (i := 119) (by decide +kernel) (by decide +kernel)
theorem wc_MT_28 : Cond.classLink "MomentTree" 28 "java/lang/IndexOutOfBoundsException" ∈ tb_ws := tb_in (i := 120) (by decide +kernel) (by decide +kernel)
theorem win_IO : Cond.instantiable "java/lang/IndexOutOfBoundsException" 6 ∈ tb_ws := tb_in (i := 121) (by decide +kernel) (by decide +kernel)
theorem win_JT : Cond.instantiable "java/lang/Throwable" 6 ∈ tb_ws := tb_in (i := 160) (by decide +kernel) (by decide +kernel)
theorem wl_MT_30 : Cond.methodLink "MomentTree" 30 ⟨"java/lang/IndexOutOfBoundsException", "<init>", "()V"⟩ ∈ tb_ws := tb_in (i := 162) (by decide +kernel) (by decide +kernel)
theorem wl_MT_31 : Cond.methodLink "MomentTree" 31 y_MT_append ∈ tb_ws := tb_in (i := 184) (by decide +kernel) (by decide +kernel)
theorem wim_MT_append : Cond.instanceMethod y_MT_append ∈ tb_ws := tb_in (i := 186) (by decide +kernel) (by decide +kernel)
theorem wco_MT_append : Cond.code y_MT_append b_MT_append 3 none ∈ tb_ws := tb_in (i := 187) (by decide +kernel) (by decide +kernel)
theorem wl_LA_63 : Cond.methodLink "MomentTreeLaw" 63 y_LA_end ∈ tb_ws := tb_in (i := 188) (by decide +kernel) (by decide +kernel)
theorem wst_LA_end : Cond.static y_LA_end ∈ tb_ws := tb_in (i := 189) (by decide +kernel) (by decide +kernel)
theorem wcw_LA_end : Cond.codeWith y_LA_end b_LA_end 4 (some .int) [(0, 9, 12, 19)] ∈ tb_ws := tb_in (i := 190) (by decide +kernel) (by decide +kernel)
theorem wc_LA_19 : Cond.classLink "MomentTreeLaw" 19 "java/lang/IllegalArgumentException" ∈ tb_ws := tb_in (i := 191) (by decide +kernel) (by decide +kernel)
theorem wl_LA_15 : Cond.methodLink "MomentTreeLaw" 15 y_MT_end ∈ tb_ws := tb_in (i := 192) (by decide +kernel) (by decide +kernel)
theorem wim_MT_end : Cond.instanceMethod y_MT_end ∈ tb_ws := tb_in (i := 193) (by decide +kernel) (by decide +kernel)
theorem wse_MT_end : Cond.selects "MomentTree" y_MT_end y_MT_end ∈ tb_ws := tb_in (i := 194) (by decide +kernel) (by decide +kernel)
theorem wco_MT_end : Cond.code y_MT_end b_MT_end 2 (some .int) ∈ tb_ws := tb_in (i := 195) (by decide +kernel) (by decide +kernel)
theorem wc_MT_35 : Cond.classLink "MomentTree" 35 "java/lang/IllegalArgumentException" ∈ tb_ws := tb_in (i := 196) (by decide +kernel) (by decide +kernel)
theorem win_IA : Cond.instantiable "java/lang/IllegalArgumentException" 6 ∈ tb_ws := tb_in (i := 197) (by decide +kernel) (by decide +kernel)
theorem wl_MT_37 : Cond.methodLink "MomentTree" 37 ⟨"java/lang/IllegalArgumentException", "<init>", "()V"⟩ ∈ tb_ws := tb_in (i := 205) (by decide +kernel) (by decide +kernel)
theorem wl_LA_67 : Cond.methodLink "MomentTreeLaw" 67 y_LA_put ∈ tb_ws := tb_in (i := 211) (by decide +kernel) (by decide +kernel)
theorem wst_LA_put : Cond.static y_LA_put ∈ tb_ws := tb_in (i := 212) (by decide +kernel) (by decide +kernel)
theorem wcw_LA_put : Cond.codeWith y_LA_put b_LA_put 6 (some .int) [(0, 12, 15, 19), (0, 12, 19, 25)] ∈ tb_ws := tb_in (i := 213) (by decide +kernel) (by decide +kernel)
theorem wc_LA_25 : Cond.classLink "MomentTreeLaw" 25 "java/lang/IllegalStateException" ∈ tb_ws := tb_in (i := 214) (by decide +kernel) (by decide +kernel)
theorem wl_LA_21 : Cond.methodLink "MomentTreeLaw" 21 y_MT_put ∈ tb_ws := tb_in (i := 215) (by decide +kernel) (by decide +kernel)
theorem wim_MT_put : Cond.instanceMethod y_MT_put ∈ tb_ws := tb_in (i := 216) (by decide +kernel) (by decide +kernel)
theorem wse_MT_put : Cond.selects "MomentTree" y_MT_put y_MT_put ∈ tb_ws := tb_in (i := 217) (by decide +kernel) (by decide +kernel)
theorem wco_MT_put : Cond.code y_MT_put b_MT_put 6 (some .int) ∈ tb_ws := tb_in (i := 218) (by decide +kernel) (by decide +kernel)
theorem wl_MT_38 : Cond.methodLink "MomentTree" 38 y_MT_tapeIsKey ∈ tb_ws := tb_in (i := 219) (by decide +kernel) (by decide +kernel)
theorem wim_MT_tapeIsKey : Cond.instanceMethod y_MT_tapeIsKey ∈ tb_ws := tb_in (i := 221) (by decide +kernel) (by decide +kernel)
theorem wco_MT_tapeIsKey : Cond.code y_MT_tapeIsKey b_MT_tapeIsKey 1 (some .boolean) ∈ tb_ws := tb_in (i := 222) (by decide +kernel) (by decide +kernel)
theorem wl_MT_42 : Cond.methodLink "MomentTree" 42 y_MT_takeTape ∈ tb_ws := tb_in (i := 223) (by decide +kernel) (by decide +kernel)
theorem wim_MT_takeTape : Cond.instanceMethod y_MT_takeTape ∈ tb_ws := tb_in (i := 225) (by decide +kernel) (by decide +kernel)
theorem wco_MT_takeTape : Cond.code y_MT_takeTape b_MT_takeTape 2 (some (.array .byte)) ∈ tb_ws := tb_in (i := 226) (by decide +kernel) (by decide +kernel)
theorem wl_MT_102 : Cond.methodLink "MomentTree" 102 y_JA_copyOf ∈ tb_ws := tb_in (i := 227) (by decide +kernel) (by decide +kernel)
theorem wst_JA_copyOf : Cond.static y_JA_copyOf ∈ tb_ws := tb_in (i := 228) (by decide +kernel) (by decide +kernel)
theorem wco_JA_copyOf : Cond.code y_JA_copyOf b_JA_copyOf 3 (some (.array .byte)) ∈ tb_ws := tb_in (i := 229) (by decide +kernel) (by decide +kernel)
theorem wl_JA_310 : Cond.methodLink "java/util/Arrays" 310 ⟨"[B", "clone", "()Ljava/lang/Object;"⟩ ∈ tb_ws := tb_in (i := 230) (by decide +kernel) (by decide +kernel)
theorem wna_JO_clone : Cond.native ⟨"java/lang/Object", "clone", "()Ljava/lang/Object;"⟩ ∈ tb_ws := tb_in (i := 232) (by decide +kernel) (by decide +kernel)
theorem wim_JO_clone : Cond.instanceMethod ⟨"java/lang/Object", "clone", "()Ljava/lang/Object;"⟩ ∈ tb_ws := tb_in (i := 233) (by decide +kernel) (by decide +kernel)
theorem wc_JA_311 : Cond.classLink "java/util/Arrays" 311 "[B" ∈ tb_ws := tb_in (i := 236) (by decide +kernel) (by decide +kernel)
theorem wl_JA_304 : Cond.methodLink "java/util/Arrays" 304 Lib.Math.min.name ∈ tb_ws := tb_in (i := 237) (by decide +kernel) (by decide +kernel)
theorem wl_JA_150 : Cond.methodLink "java/util/Arrays" 150 arraycopyName ∈ tb_ws := tb_in (i := 238) (by decide +kernel) (by decide +kernel)
theorem wst_JS_arraycopy : Cond.static arraycopyName ∈ tb_ws := tb_in (i := 239) (by decide +kernel) (by decide +kernel)
theorem wna_JS_arraycopy : Cond.native arraycopyName ∈ tb_ws := tb_in (i := 240) (by decide +kernel) (by decide +kernel)
theorem wl_MT_46 : Cond.methodLink "MomentTree" 46 y_TR_firstFrom ∈ tb_ws := tb_in (i := 241) (by decide +kernel) (by decide +kernel)
theorem wim_TR_firstFrom : Cond.instanceMethod y_TR_firstFrom ∈ tb_ws := tb_in (i := 242) (by decide +kernel) (by decide +kernel)
theorem wse_TR_firstFrom : Cond.selects "MomentTree$Tree" y_TR_firstFrom y_TR_firstFrom ∈ tb_ws := tb_in (i := 243) (by decide +kernel) (by decide +kernel)
theorem wco_TR_firstFrom : Cond.code y_TR_firstFrom b_TR_firstFrom 8 (some (.object "MomentTree$Version")) ∈ tb_ws := tb_in (i := 244) (by decide +kernel) (by decide +kernel)
theorem wl_MT_50 : Cond.methodLink "MomentTree" 50 y_VE_orderOf ∈ tb_ws := tb_in (i := 245) (by decide +kernel) (by decide +kernel)
theorem wc_MT_65 : Cond.classLink "MomentTree" 65 "java/lang/IllegalStateException" ∈ tb_ws := tb_in (i := 246) (by decide +kernel) (by decide +kernel)
theorem win_IS : Cond.instantiable "java/lang/IllegalStateException" 6 ∈ tb_ws := tb_in (i := 247) (by decide +kernel) (by decide +kernel)
theorem wl_MT_67 : Cond.methodLink "MomentTree" 67 ⟨"java/lang/IllegalStateException", "<init>", "()V"⟩ ∈ tb_ws := tb_in (i := 255) (by decide +kernel) (by decide +kernel)
theorem wc_MT_51 : Cond.classLink "MomentTree" 51 "MomentTree$Version" ∈ tb_ws := tb_in (i := 261) (by decide +kernel) (by decide +kernel)
theorem win_VE : Cond.instantiable "MomentTree$Version" 7 ∈ tb_ws := tb_in (i := 262) (by decide +kernel) (by decide +kernel)
theorem wl_MT_68 : Cond.methodLink "MomentTree" 68 y_VE_init ∈ tb_ws := tb_in (i := 263) (by decide +kernel) (by decide +kernel)
theorem wim_VE_init : Cond.instanceMethod y_VE_init ∈ tb_ws := tb_in (i := 264) (by decide +kernel) (by decide +kernel)
theorem wco_VE_init : Cond.code y_VE_init b_VE_init 5 none ∈ tb_ws := tb_in (i := 265) (by decide +kernel) (by decide +kernel)
theorem wl_VE_1 : Cond.methodLink "MomentTree$Version" 1 Lib.objectInit ∈ tb_ws := tb_in (i := 266) (by decide +kernel) (by decide +kernel)
theorem wf_VE_7 : Cond.fieldLink "MomentTree$Version" 7 "MomentTree$Version" "key" "[B" ∈ tb_ws := tb_in (i := 267) (by decide +kernel) (by decide +kernel)
theorem wf_MT_75 : Cond.fieldLink "MomentTree" 75 "MomentTree$Version" "key" "[B" ∈ tb_ws := tb_in (i := 268) (by decide +kernel) (by decide +kernel)
theorem wf_TR_37 : Cond.fieldLink "MomentTree$Tree" 37 "MomentTree$Version" "key" "[B" ∈ tb_ws := tb_in (i := 269) (by decide +kernel) (by decide +kernel)
theorem wf_VE_13 : Cond.fieldLink "MomentTree$Version" 13 "MomentTree$Version" "moment" "I" ∈ tb_ws := tb_in (i := 270) (by decide +kernel) (by decide +kernel)
theorem wf_TR_41 : Cond.fieldLink "MomentTree$Tree" 41 "MomentTree$Version" "moment" "I" ∈ tb_ws := tb_in (i := 271) (by decide +kernel) (by decide +kernel)
theorem wf_MT_86 : Cond.fieldLink "MomentTree" 86 "MomentTree$Version" "moment" "I" ∈ tb_ws := tb_in (i := 272) (by decide +kernel) (by decide +kernel)
theorem wf_VE_17 : Cond.fieldLink "MomentTree$Version" 17 "MomentTree$Version" "place" "I" ∈ tb_ws := tb_in (i := 273) (by decide +kernel) (by decide +kernel)
theorem wf_MT_56 : Cond.fieldLink "MomentTree" 56 "MomentTree$Version" "place" "I" ∈ tb_ws := tb_in (i := 274) (by decide +kernel) (by decide +kernel)
theorem wf_VE_20 : Cond.fieldLink "MomentTree$Version" 20 "MomentTree$Version" "size" "I" ∈ tb_ws := tb_in (i := 275) (by decide +kernel) (by decide +kernel)
theorem wf_MT_59 : Cond.fieldLink "MomentTree" 59 "MomentTree$Version" "size" "I" ∈ tb_ws := tb_in (i := 276) (by decide +kernel) (by decide +kernel)
theorem wf_VE_23 : Cond.fieldLink "MomentTree$Version" 23 "MomentTree$Version" "height" "I" ∈ tb_ws := tb_in (i := 277) (by decide +kernel) (by decide +kernel)
theorem wf_TR_52 : Cond.fieldLink "MomentTree$Tree" 52 "MomentTree$Version" "height" "I" ∈ tb_ws := tb_in (i := 278) (by decide +kernel) (by decide +kernel)
theorem wf_VE_26 : Cond.fieldLink "MomentTree$Version" 26 "MomentTree$Version" "left" "LMomentTree$Version;" ∈ tb_ws := tb_in (i := 279) (by decide +kernel) (by decide +kernel)
theorem wf_TR_23 : Cond.fieldLink "MomentTree$Tree" 23 "MomentTree$Version" "left" "LMomentTree$Version;" ∈ tb_ws := tb_in (i := 280) (by decide +kernel) (by decide +kernel)
theorem wf_VE_30 : Cond.fieldLink "MomentTree$Version" 30 "MomentTree$Version" "right" "LMomentTree$Version;" ∈ tb_ws := tb_in (i := 281) (by decide +kernel) (by decide +kernel)
theorem wf_TR_26 : Cond.fieldLink "MomentTree$Tree" 26 "MomentTree$Version" "right" "LMomentTree$Version;" ∈ tb_ws := tb_in (i := 282) (by decide +kernel) (by decide +kernel)
theorem wl_MT_71 : Cond.methodLink "MomentTree" 71 y_TR_add ∈ tb_ws := tb_in (i := 298) (by decide +kernel) (by decide +kernel)
theorem wim_TR_add : Cond.instanceMethod y_TR_add ∈ tb_ws := tb_in (i := 299) (by decide +kernel) (by decide +kernel)
theorem wse_TR_add : Cond.selects "MomentTree$Tree" y_TR_add y_TR_add ∈ tb_ws := tb_in (i := 300) (by decide +kernel) (by decide +kernel)
theorem wco_TR_add : Cond.code y_TR_add b_TR_add 2 none ∈ tb_ws := tb_in (i := 301) (by decide +kernel) (by decide +kernel)
theorem wl_TR_29 : Cond.methodLink "MomentTree$Tree" 29 y_TR_withAdded ∈ tb_ws := tb_in (i := 302) (by decide +kernel) (by decide +kernel)
theorem wst_TR_withAdded : Cond.static y_TR_withAdded ∈ tb_ws := tb_in (i := 303) (by decide +kernel) (by decide +kernel)
theorem wco_TR_withAdded : Cond.code y_TR_withAdded b_TR_withAdded 3 (some (.object "MomentTree$Version")) ∈ tb_ws := tb_in (i := 304) (by decide +kernel) (by decide +kernel)
theorem wl_TR_44 : Cond.methodLink "MomentTree$Tree" 44 y_TR_balanced ∈ tb_ws := tb_in (i := 305) (by decide +kernel) (by decide +kernel)
theorem wst_TR_balanced : Cond.static y_TR_balanced ∈ tb_ws := tb_in (i := 306) (by decide +kernel) (by decide +kernel)
theorem wco_TR_balanced : Cond.code y_TR_balanced b_TR_balanced 2 (some (.object "MomentTree$Version")) ∈ tb_ws := tb_in (i := 307) (by decide +kernel) (by decide +kernel)
theorem wl_TR_58 : Cond.methodLink "MomentTree$Tree" 58 y_TR_turnedLeft ∈ tb_ws := tb_in (i := 308) (by decide +kernel) (by decide +kernel)
theorem wst_TR_turnedLeft : Cond.static y_TR_turnedLeft ∈ tb_ws := tb_in (i := 309) (by decide +kernel) (by decide +kernel)
theorem wco_TR_turnedLeft : Cond.code y_TR_turnedLeft b_TR_turnedLeft 2 (some (.object "MomentTree$Version")) ∈ tb_ws := tb_in (i := 310) (by decide +kernel) (by decide +kernel)
theorem wl_TR_61 : Cond.methodLink "MomentTree$Tree" 61 y_TR_turnedRight ∈ tb_ws := tb_in (i := 311) (by decide +kernel) (by decide +kernel)
theorem wst_TR_turnedRight : Cond.static y_TR_turnedRight ∈ tb_ws := tb_in (i := 312) (by decide +kernel) (by decide +kernel)
theorem wco_TR_turnedRight : Cond.code y_TR_turnedRight b_TR_turnedRight 2 (some (.object "MomentTree$Version")) ∈ tb_ws := tb_in (i := 313) (by decide +kernel) (by decide +kernel)
theorem wl_LA_71 : Cond.methodLink "MomentTreeLaw" 71 y_LA_find ∈ tb_ws := tb_in (i := 314) (by decide +kernel) (by decide +kernel)
theorem wst_LA_find : Cond.static y_LA_find ∈ tb_ws := tb_in (i := 315) (by decide +kernel) (by decide +kernel)
theorem wcw_LA_find : Cond.codeWith y_LA_find b_LA_find 4 (some .int) [(0, 9, 12, 19), (0, 9, 15, 30)] ∈ tb_ws := tb_in (i := 316) (by decide +kernel) (by decide +kernel)
theorem wc_LA_30 : Cond.classLink "MomentTreeLaw" 30 "java/util/NoSuchElementException" ∈ tb_ws := tb_in (i := 317) (by decide +kernel) (by decide +kernel)
theorem wl_LA_27 : Cond.methodLink "MomentTreeLaw" 27 y_MT_find ∈ tb_ws := tb_in (i := 318) (by decide +kernel) (by decide +kernel)
theorem wim_MT_find : Cond.instanceMethod y_MT_find ∈ tb_ws := tb_in (i := 319) (by decide +kernel) (by decide +kernel)
theorem wse_MT_find : Cond.selects "MomentTree" y_MT_find y_MT_find ∈ tb_ws := tb_in (i := 320) (by decide +kernel) (by decide +kernel)
theorem wco_MT_find : Cond.code y_MT_find b_MT_find 5 (some .int) ∈ tb_ws := tb_in (i := 321) (by decide +kernel) (by decide +kernel)
theorem wl_MT_78 : Cond.methodLink "MomentTree" 78 y_VE_orderOfKeys ∈ tb_ws := tb_in (i := 322) (by decide +kernel) (by decide +kernel)
theorem wl_MT_82 : Cond.methodLink "MomentTree" 82 y_MT_goTo ∈ tb_ws := tb_in (i := 323) (by decide +kernel) (by decide +kernel)
theorem wim_MT_goTo : Cond.instanceMethod y_MT_goTo ∈ tb_ws := tb_in (i := 325) (by decide +kernel) (by decide +kernel)
theorem wco_MT_goTo : Cond.code y_MT_goTo b_MT_goTo 2 (some .int) ∈ tb_ws := tb_in (i := 326) (by decide +kernel) (by decide +kernel)
theorem wc_MT_92 : Cond.classLink "MomentTree" 92 "java/util/NoSuchElementException" ∈ tb_ws := tb_in (i := 327) (by decide +kernel) (by decide +kernel)
theorem win_NS : Cond.instantiable "java/util/NoSuchElementException" 6 ∈ tb_ws := tb_in (i := 328) (by decide +kernel) (by decide +kernel)
theorem wl_MT_94 : Cond.methodLink "MomentTree" 94 ⟨"java/util/NoSuchElementException", "<init>", "()V"⟩ ∈ tb_ws := tb_in (i := 336) (by decide +kernel) (by decide +kernel)
theorem wl_LA_74 : Cond.methodLink "MomentTreeLaw" 74 y_LA_seek ∈ tb_ws := tb_in (i := 342) (by decide +kernel) (by decide +kernel)
theorem wst_LA_seek : Cond.static y_LA_seek ∈ tb_ws := tb_in (i := 343) (by decide +kernel) (by decide +kernel)
theorem wcw_LA_seek : Cond.codeWith y_LA_seek b_LA_seek 5 (some .int) [(0, 10, 13, 19), (0, 10, 17, 30)] ∈ tb_ws := tb_in (i := 344) (by decide +kernel) (by decide +kernel)
theorem wl_LA_32 : Cond.methodLink "MomentTreeLaw" 32 y_MT_seek ∈ tb_ws := tb_in (i := 345) (by decide +kernel) (by decide +kernel)
theorem wim_MT_seek : Cond.instanceMethod y_MT_seek ∈ tb_ws := tb_in (i := 346) (by decide +kernel) (by decide +kernel)
theorem wse_MT_seek : Cond.selects "MomentTree" y_MT_seek y_MT_seek ∈ tb_ws := tb_in (i := 347) (by decide +kernel) (by decide +kernel)
theorem wco_MT_seek : Cond.code y_MT_seek b_MT_seek 3 (some .int) ∈ tb_ws := tb_in (i := 348) (by decide +kernel) (by decide +kernel)
theorem wl_LA_78 : Cond.methodLink "MomentTreeLaw" 78 y_LA_next ∈ tb_ws := tb_in (i := 349) (by decide +kernel) (by decide +kernel)
theorem wst_LA_next : Cond.static y_LA_next ∈ tb_ws := tb_in (i := 350) (by decide +kernel) (by decide +kernel)
theorem wcw_LA_next : Cond.codeWith y_LA_next b_LA_next 3 (some .int) [(0, 8, 11, 30)] ∈ tb_ws := tb_in (i := 351) (by decide +kernel) (by decide +kernel)
theorem wl_LA_36 : Cond.methodLink "MomentTreeLaw" 36 y_MT_next ∈ tb_ws := tb_in (i := 352) (by decide +kernel) (by decide +kernel)
theorem wim_MT_next : Cond.instanceMethod y_MT_next ∈ tb_ws := tb_in (i := 353) (by decide +kernel) (by decide +kernel)
theorem wse_MT_next : Cond.selects "MomentTree" y_MT_next y_MT_next ∈ tb_ws := tb_in (i := 354) (by decide +kernel) (by decide +kernel)
theorem wco_MT_next : Cond.code y_MT_next b_MT_next 1 (some .int) ∈ tb_ws := tb_in (i := 355) (by decide +kernel) (by decide +kernel)
theorem wl_LA_82 : Cond.methodLink "MomentTreeLaw" 82 y_LA_first ∈ tb_ws := tb_in (i := 356) (by decide +kernel) (by decide +kernel)
theorem wst_LA_first : Cond.static y_LA_first ∈ tb_ws := tb_in (i := 357) (by decide +kernel) (by decide +kernel)
theorem wcw_LA_first : Cond.codeWith y_LA_first b_LA_first 3 (some .int) [(0, 8, 11, 30)] ∈ tb_ws := tb_in (i := 358) (by decide +kernel) (by decide +kernel)
theorem wl_LA_40 : Cond.methodLink "MomentTreeLaw" 40 y_MT_first ∈ tb_ws := tb_in (i := 359) (by decide +kernel) (by decide +kernel)
theorem wim_MT_first : Cond.instanceMethod y_MT_first ∈ tb_ws := tb_in (i := 360) (by decide +kernel) (by decide +kernel)
theorem wse_MT_first : Cond.selects "MomentTree" y_MT_first y_MT_first ∈ tb_ws := tb_in (i := 361) (by decide +kernel) (by decide +kernel)
theorem wco_MT_first : Cond.code y_MT_first b_MT_first 1 (some .int) ∈ tb_ws := tb_in (i := 362) (by decide +kernel) (by decide +kernel)
theorem wf_MT_89 : Cond.fieldLink "MomentTree" 89 "MomentTree" "BEFORE_ALL_KEYS" "[B" ∈ tb_ws := tb_in (i := 363) (by decide +kernel) (by decide +kernel)
theorem wl_LA_85 : Cond.methodLink "MomentTreeLaw" 85 y_LA_current ∈ tb_ws := tb_in (i := 365) (by decide +kernel) (by decide +kernel)
theorem wst_LA_current : Cond.static y_LA_current ∈ tb_ws := tb_in (i := 366) (by decide +kernel) (by decide +kernel)
theorem wcw_LA_current : Cond.codeWith y_LA_current b_LA_current 4 (some .int) [(0, 9, 12, 19), (0, 9, 15, 30)] ∈ tb_ws := tb_in (i := 367) (by decide +kernel) (by decide +kernel)
theorem wl_LA_43 : Cond.methodLink "MomentTreeLaw" 43 y_MT_current ∈ tb_ws := tb_in (i := 368) (by decide +kernel) (by decide +kernel)
theorem wim_MT_current : Cond.instanceMethod y_MT_current ∈ tb_ws := tb_in (i := 369) (by decide +kernel) (by decide +kernel)
theorem wse_MT_current : Cond.selects "MomentTree" y_MT_current y_MT_current ∈ tb_ws := tb_in (i := 370) (by decide +kernel) (by decide +kernel)
theorem wco_MT_current : Cond.code y_MT_current b_MT_current 2 (some .int) ∈ tb_ws := tb_in (i := 371) (by decide +kernel) (by decide +kernel)
theorem wl_LA_88 : Cond.methodLink "MomentTreeLaw" 88 y_LA_word ∈ tb_ws := tb_in (i := 372) (by decide +kernel) (by decide +kernel)
theorem wst_LA_word : Cond.static y_LA_word ∈ tb_ws := tb_in (i := 373) (by decide +kernel) (by decide +kernel)
theorem wcw_LA_word : Cond.codeWith y_LA_word b_LA_word 4 (some .int) [(0, 8, 11, 30), (0, 8, 14, 13)] ∈ tb_ws := tb_in (i := 374) (by decide +kernel) (by decide +kernel)
theorem wl_LA_46 : Cond.methodLink "MomentTreeLaw" 46 y_MT_word ∈ tb_ws := tb_in (i := 375) (by decide +kernel) (by decide +kernel)
theorem wim_MT_word : Cond.instanceMethod y_MT_word ∈ tb_ws := tb_in (i := 376) (by decide +kernel) (by decide +kernel)
theorem wse_MT_word : Cond.selects "MomentTree" y_MT_word y_MT_word ∈ tb_ws := tb_in (i := 377) (by decide +kernel) (by decide +kernel)
theorem wco_MT_word : Cond.code y_MT_word b_MT_word 6 (some .long) ∈ tb_ws := tb_in (i := 378) (by decide +kernel) (by decide +kernel)
theorem wc_LA_51 : Cond.classLink "MomentTreeLaw" 51 "MomentTreeModel" ∈ tb_ws := tb_in (i := 379) (by decide +kernel) (by decide +kernel)
theorem win_MO : Cond.instantiable "MomentTreeModel" 10 ∈ tb_ws := tb_in (i := 380) (by decide +kernel) (by decide +kernel)
theorem wl_LA_53 : Cond.methodLink "MomentTreeLaw" 53 y_MO_init ∈ tb_ws := tb_in (i := 381) (by decide +kernel) (by decide +kernel)
theorem wim_MO_init : Cond.instanceMethod y_MO_init ∈ tb_ws := tb_in (i := 382) (by decide +kernel) (by decide +kernel)
theorem wco_MO_init : Cond.code y_MO_init b_MO_init 1 none ∈ tb_ws := tb_in (i := 383) (by decide +kernel) (by decide +kernel)
theorem wl_MO_1 : Cond.methodLink "MomentTreeModel" 1 Lib.objectInit ∈ tb_ws := tb_in (i := 384) (by decide +kernel) (by decide +kernel)
theorem wf_MO_33 : Cond.fieldLink "MomentTreeModel" 33 "MomentTreeModel" "failed" "I" ∈ tb_ws := tb_in (i := 385) (by decide +kernel) (by decide +kernel)
theorem wf_MO_7 : Cond.fieldLink "MomentTreeModel" 7 "MomentTreeModel" "tape" "[B" ∈ tb_ws := tb_in (i := 386) (by decide +kernel) (by decide +kernel)
theorem wf_MO_36 : Cond.fieldLink "MomentTreeModel" 36 "MomentTreeModel" "taped" "I" ∈ tb_ws := tb_in (i := 387) (by decide +kernel) (by decide +kernel)
theorem wf_MO_13 : Cond.fieldLink "MomentTreeModel" 13 "MomentTreeModel" "keys" "[B" ∈ tb_ws := tb_in (i := 388) (by decide +kernel) (by decide +kernel)
theorem wf_MO_16 : Cond.fieldLink "MomentTreeModel" 16 "MomentTreeModel" "lengths" "[I" ∈ tb_ws := tb_in (i := 389) (by decide +kernel) (by decide +kernel)
theorem wf_MO_20 : Cond.fieldLink "MomentTreeModel" 20 "MomentTreeModel" "moments" "[I" ∈ tb_ws := tb_in (i := 390) (by decide +kernel) (by decide +kernel)
theorem wf_MO_23 : Cond.fieldLink "MomentTreeModel" 23 "MomentTreeModel" "places" "[I" ∈ tb_ws := tb_in (i := 391) (by decide +kernel) (by decide +kernel)
theorem wf_MO_26 : Cond.fieldLink "MomentTreeModel" 26 "MomentTreeModel" "sizes" "[I" ∈ tb_ws := tb_in (i := 392) (by decide +kernel) (by decide +kernel)
theorem wf_MO_43 : Cond.fieldLink "MomentTreeModel" 43 "MomentTreeModel" "size" "I" ∈ tb_ws := tb_in (i := 393) (by decide +kernel) (by decide +kernel)
theorem wf_MO_29 : Cond.fieldLink "MomentTreeModel" 29 "MomentTreeModel" "at" "I" ∈ tb_ws := tb_in (i := 394) (by decide +kernel) (by decide +kernel)
theorem wa_int : Cond.arrayClass .int ∈ tb_ws := tb_in (i := 416) (by decide +kernel) (by decide +kernel)
theorem wl_LA_60 : Cond.methodLink "MomentTreeLaw" 60 y_MO_thrown ∈ tb_ws := tb_in (i := 417) (by decide +kernel) (by decide +kernel)
theorem wim_MO_thrown : Cond.instanceMethod y_MO_thrown ∈ tb_ws := tb_in (i := 418) (by decide +kernel) (by decide +kernel)
theorem wse_MO_thrown : Cond.selects "MomentTreeModel" y_MO_thrown y_MO_thrown ∈ tb_ws := tb_in (i := 419) (by decide +kernel) (by decide +kernel)
theorem wco_MO_thrown : Cond.code y_MO_thrown b_MO_thrown 1 (some .int) ∈ tb_ws := tb_in (i := 420) (by decide +kernel) (by decide +kernel)
theorem wl_LA_59 : Cond.methodLink "MomentTreeLaw" 59 y_MO_feed ∈ tb_ws := tb_in (i := 421) (by decide +kernel) (by decide +kernel)
theorem wim_MO_feed : Cond.instanceMethod y_MO_feed ∈ tb_ws := tb_in (i := 422) (by decide +kernel) (by decide +kernel)
theorem wse_MO_feed : Cond.selects "MomentTreeModel" y_MO_feed y_MO_feed ∈ tb_ws := tb_in (i := 423) (by decide +kernel) (by decide +kernel)
theorem wco_MO_feed : Cond.code y_MO_feed b_MO_feed 8 (some .int) ∈ tb_ws := tb_in (i := 424) (by decide +kernel) (by decide +kernel)
theorem wl_MO_39 : Cond.methodLink "MomentTreeModel" 39 y_MO_fail ∈ tb_ws := tb_in (i := 425) (by decide +kernel) (by decide +kernel)
theorem wim_MO_fail : Cond.instanceMethod y_MO_fail ∈ tb_ws := tb_in (i := 427) (by decide +kernel) (by decide +kernel)
theorem wco_MO_fail : Cond.code y_MO_fail b_MO_fail 2 (some .int) ∈ tb_ws := tb_in (i := 428) (by decide +kernel) (by decide +kernel)
theorem wl_LA_66 : Cond.methodLink "MomentTreeLaw" 66 y_MO_end ∈ tb_ws := tb_in (i := 429) (by decide +kernel) (by decide +kernel)
theorem wim_MO_end : Cond.instanceMethod y_MO_end ∈ tb_ws := tb_in (i := 430) (by decide +kernel) (by decide +kernel)
theorem wse_MO_end : Cond.selects "MomentTreeModel" y_MO_end y_MO_end ∈ tb_ws := tb_in (i := 431) (by decide +kernel) (by decide +kernel)
theorem wco_MO_end : Cond.code y_MO_end b_MO_end 2 (some .int) ∈ tb_ws := tb_in (i := 432) (by decide +kernel) (by decide +kernel)
theorem wl_LA_70 : Cond.methodLink "MomentTreeLaw" 70 y_MO_put ∈ tb_ws := tb_in (i := 433) (by decide +kernel) (by decide +kernel)
theorem wim_MO_put : Cond.instanceMethod y_MO_put ∈ tb_ws := tb_in (i := 434) (by decide +kernel) (by decide +kernel)
theorem wse_MO_put : Cond.selects "MomentTreeModel" y_MO_put y_MO_put ∈ tb_ws := tb_in (i := 435) (by decide +kernel) (by decide +kernel)
theorem wco_MO_put : Cond.code y_MO_put b_MO_put 8 (some .int) ∈ tb_ws := tb_in (i := 436) (by decide +kernel) (by decide +kernel)
theorem wl_MO_50 : Cond.methodLink "MomentTreeModel" 50 y_MO_before ∈ tb_ws := tb_in (i := 437) (by decide +kernel) (by decide +kernel)
theorem wim_MO_before : Cond.instanceMethod y_MO_before ∈ tb_ws := tb_in (i := 439) (by decide +kernel) (by decide +kernel)
theorem wco_MO_before : Cond.code y_MO_before b_MO_before 4 (some .int) ∈ tb_ws := tb_in (i := 440) (by decide +kernel) (by decide +kernel)
theorem wl_MO_46 : Cond.methodLink "MomentTreeModel" 46 y_MO_compare ∈ tb_ws := tb_in (i := 441) (by decide +kernel) (by decide +kernel)
theorem wim_MO_compare : Cond.instanceMethod y_MO_compare ∈ tb_ws := tb_in (i := 443) (by decide +kernel) (by decide +kernel)
theorem wco_MO_compare : Cond.code y_MO_compare b_MO_compare 6 (some .int) ∈ tb_ws := tb_in (i := 444) (by decide +kernel) (by decide +kernel)
theorem wl_MO_54 : Cond.methodLink "MomentTreeModel" 54 y_MO_moveUp ∈ tb_ws := tb_in (i := 445) (by decide +kernel) (by decide +kernel)
theorem wim_MO_moveUp : Cond.instanceMethod y_MO_moveUp ∈ tb_ws := tb_in (i := 447) (by decide +kernel) (by decide +kernel)
theorem wco_MO_moveUp : Cond.code y_MO_moveUp b_MO_moveUp 4 none ∈ tb_ws := tb_in (i := 448) (by decide +kernel) (by decide +kernel)
theorem wl_LA_73 : Cond.methodLink "MomentTreeLaw" 73 y_MO_find ∈ tb_ws := tb_in (i := 449) (by decide +kernel) (by decide +kernel)
theorem wim_MO_find : Cond.instanceMethod y_MO_find ∈ tb_ws := tb_in (i := 450) (by decide +kernel) (by decide +kernel)
theorem wse_MO_find : Cond.selects "MomentTreeModel" y_MO_find y_MO_find ∈ tb_ws := tb_in (i := 451) (by decide +kernel) (by decide +kernel)
theorem wco_MO_find : Cond.code y_MO_find b_MO_find 4 (some .int) ∈ tb_ws := tb_in (i := 452) (by decide +kernel) (by decide +kernel)
theorem wl_MO_58 : Cond.methodLink "MomentTreeModel" 58 y_MO_go ∈ tb_ws := tb_in (i := 453) (by decide +kernel) (by decide +kernel)
theorem wim_MO_go : Cond.instanceMethod y_MO_go ∈ tb_ws := tb_in (i := 455) (by decide +kernel) (by decide +kernel)
theorem wco_MO_go : Cond.code y_MO_go b_MO_go 4 (some .int) ∈ tb_ws := tb_in (i := 456) (by decide +kernel) (by decide +kernel)
theorem wl_LA_77 : Cond.methodLink "MomentTreeLaw" 77 y_MO_seek ∈ tb_ws := tb_in (i := 457) (by decide +kernel) (by decide +kernel)
theorem wim_MO_seek : Cond.instanceMethod y_MO_seek ∈ tb_ws := tb_in (i := 458) (by decide +kernel) (by decide +kernel)
theorem wse_MO_seek : Cond.selects "MomentTreeModel" y_MO_seek y_MO_seek ∈ tb_ws := tb_in (i := 459) (by decide +kernel) (by decide +kernel)
theorem wco_MO_seek : Cond.code y_MO_seek b_MO_seek 5 (some .int) ∈ tb_ws := tb_in (i := 460) (by decide +kernel) (by decide +kernel)
theorem wl_LA_81 : Cond.methodLink "MomentTreeLaw" 81 y_MO_next ∈ tb_ws := tb_in (i := 461) (by decide +kernel) (by decide +kernel)
theorem wim_MO_next : Cond.instanceMethod y_MO_next ∈ tb_ws := tb_in (i := 462) (by decide +kernel) (by decide +kernel)
theorem wse_MO_next : Cond.selects "MomentTreeModel" y_MO_next y_MO_next ∈ tb_ws := tb_in (i := 463) (by decide +kernel) (by decide +kernel)
theorem wco_MO_next : Cond.code y_MO_next b_MO_next 1 (some .int) ∈ tb_ws := tb_in (i := 464) (by decide +kernel) (by decide +kernel)
theorem wl_LA_84 : Cond.methodLink "MomentTreeLaw" 84 y_MO_first ∈ tb_ws := tb_in (i := 465) (by decide +kernel) (by decide +kernel)
theorem wim_MO_first : Cond.instanceMethod y_MO_first ∈ tb_ws := tb_in (i := 466) (by decide +kernel) (by decide +kernel)
theorem wse_MO_first : Cond.selects "MomentTreeModel" y_MO_first y_MO_first ∈ tb_ws := tb_in (i := 467) (by decide +kernel) (by decide +kernel)
theorem wco_MO_first : Cond.code y_MO_first b_MO_first 1 (some .int) ∈ tb_ws := tb_in (i := 468) (by decide +kernel) (by decide +kernel)
theorem wl_LA_87 : Cond.methodLink "MomentTreeLaw" 87 y_MO_current ∈ tb_ws := tb_in (i := 469) (by decide +kernel) (by decide +kernel)
theorem wim_MO_current : Cond.instanceMethod y_MO_current ∈ tb_ws := tb_in (i := 470) (by decide +kernel) (by decide +kernel)
theorem wse_MO_current : Cond.selects "MomentTreeModel" y_MO_current y_MO_current ∈ tb_ws := tb_in (i := 471) (by decide +kernel) (by decide +kernel)
theorem wco_MO_current : Cond.code y_MO_current b_MO_current 2 (some .int) ∈ tb_ws := tb_in (i := 472) (by decide +kernel) (by decide +kernel)
theorem wl_LA_90 : Cond.methodLink "MomentTreeLaw" 90 y_MO_word ∈ tb_ws := tb_in (i := 473) (by decide +kernel) (by decide +kernel)
theorem wim_MO_word : Cond.instanceMethod y_MO_word ∈ tb_ws := tb_in (i := 474) (by decide +kernel) (by decide +kernel)
theorem wse_MO_word : Cond.selects "MomentTreeModel" y_MO_word y_MO_word ∈ tb_ws := tb_in (i := 475) (by decide +kernel) (by decide +kernel)
theorem wco_MO_word : Cond.code y_MO_word b_MO_word 5 (some .long) ∈ tb_ws := tb_in (i := 476) (by decide +kernel) (by decide +kernel)
theorem wk_MO_62 : Cond.constantLong "MomentTreeModel" 62 256 ∈ tb_ws := tb_in (i := 477) (by decide +kernel) (by decide +kernel)
theorem wl_LA_94 : Cond.methodLink "MomentTreeLaw" 94 y_MO_clear ∈ tb_ws := tb_in (i := 478) (by decide +kernel) (by decide +kernel)
theorem wim_MO_clear : Cond.instanceMethod y_MO_clear ∈ tb_ws := tb_in (i := 479) (by decide +kernel) (by decide +kernel)
theorem wse_MO_clear : Cond.selects "MomentTreeModel" y_MO_clear y_MO_clear ∈ tb_ws := tb_in (i := 480) (by decide +kernel) (by decide +kernel)
theorem wco_MO_clear : Cond.code y_MO_clear b_MO_clear 2 (some .int) ∈ tb_ws := tb_in (i := 481) (by decide +kernel) (by decide +kernel)
theorem wl_LA_98 : Cond.methodLink "MomentTreeLaw" 98 y_MO_count ∈ tb_ws := tb_in (i := 482) (by decide +kernel) (by decide +kernel)
theorem wim_MO_count : Cond.instanceMethod y_MO_count ∈ tb_ws := tb_in (i := 483) (by decide +kernel) (by decide +kernel)
theorem wse_MO_count : Cond.selects "MomentTreeModel" y_MO_count y_MO_count ∈ tb_ws := tb_in (i := 484) (by decide +kernel) (by decide +kernel)
theorem wco_MO_count : Cond.code y_MO_count b_MO_count 1 (some .int) ∈ tb_ws := tb_in (i := 485) (by decide +kernel) (by decide +kernel)
theorem wa_long : Cond.arrayClass .long ∈ tb_ws := tb_in (i := 486) (by decide +kernel) (by decide +kernel)
theorem in_MT : ∀ w ∈ u_ws R_MT T_MT 4, w ∈ tb_ws := by decide +kernel
theorem in_TR : ∀ w ∈ u_ws R_TR T_TR 2, w ∈ tb_ws := by decide +kernel
theorem in_VE : ∀ w ∈ u_ws R_VE T_VE 7, w ∈ tb_ws := by decide +kernel
theorem in_MO : ∀ w ∈ u_ws R_MO T_MO 10, w ∈ tb_ws := by decide +kernel
theorem d_MT_init_0 : decode b_MT_init 0 = .ok (.aload_n 0, 1) := by decide +kernel
theorem d_MT_init_1 : decode b_MT_init 1 = .ok (.invokespecial 1, 3) := by decide +kernel
theorem d_MT_init_4 : decode b_MT_init 4 = .ok (.aload_n 0, 1) := by decide +kernel
theorem d_MT_init_5 : decode b_MT_init 5 = .ok (.bipush 60, 2) := by decide +kernel
theorem d_MT_init_7 : decode b_MT_init 7 = .ok (.newarray .byte, 2) := by decide +kernel
theorem d_MT_init_9 : decode b_MT_init 9 = .ok (.putfield 9, 3) := by decide +kernel
theorem d_MT_init_12 : decode b_MT_init 12 = .ok (.aload_n 0, 1) := by decide +kernel
theorem d_MT_init_13 : decode b_MT_init 13 = .ok (.iconst 0, 1) := by decide +kernel
theorem d_MT_init_14 : decode b_MT_init 14 = .ok (.putfield 13, 3) := by decide +kernel
theorem d_MT_init_17 : decode b_MT_init 17 = .ok (.aload_n 0, 1) := by decide +kernel
theorem d_MT_init_18 : decode b_MT_init 18 = .ok (.new 17, 3) := by decide +kernel
theorem d_MT_init_21 : decode b_MT_init 21 = .ok (.dup, 1) := by decide +kernel
theorem d_MT_init_22 : decode b_MT_init 22 = .ok (.invokespecial 19, 3) := by decide +kernel
theorem d_MT_init_25 : decode b_MT_init 25 = .ok (.putfield 20, 3) := by decide +kernel
theorem d_MT_init_28 : decode b_MT_init 28 = .ok (.aload_n 0, 1) := by decide +kernel
theorem d_MT_init_29 : decode b_MT_init 29 = .ok (.aconst_null, 1) := by decide +kernel
theorem d_MT_init_30 : decode b_MT_init 30 = .ok (.putfield 24, 3) := by decide +kernel
theorem d_MT_init_33 : decode b_MT_init 33 = .ok (.return_, 1) := by decide +kernel
theorem d_TR_init_0 : decode b_TR_init 0 = .ok (.aload_n 0, 1) := by decide +kernel
theorem d_TR_init_1 : decode b_TR_init 1 = .ok (.invokespecial 1, 3) := by decide +kernel
theorem d_TR_init_4 : decode b_TR_init 4 = .ok (.aload_n 0, 1) := by decide +kernel
theorem d_TR_init_5 : decode b_TR_init 5 = .ok (.aconst_null, 1) := by decide +kernel
theorem d_TR_init_6 : decode b_TR_init 6 = .ok (.putfield 7, 3) := by decide +kernel
theorem d_TR_init_9 : decode b_TR_init 9 = .ok (.aload_n 0, 1) := by decide +kernel
theorem d_TR_init_10 : decode b_TR_init 10 = .ok (.iconst 0, 1) := by decide +kernel
theorem d_TR_init_11 : decode b_TR_init 11 = .ok (.putfield 13, 3) := by decide +kernel
theorem d_TR_init_14 : decode b_TR_init 14 = .ok (.return_, 1) := by decide +kernel
theorem d_MT_clear_0 : decode b_MT_clear 0 = .ok (.aload_n 0, 1) := by decide +kernel
theorem d_MT_clear_1 : decode b_MT_clear 1 = .ok (.getfield 20, 3) := by decide +kernel
theorem d_MT_clear_4 : decode b_MT_clear 4 = .ok (.getfield 62, 3) := by decide +kernel
theorem d_MT_clear_7 : decode b_MT_clear 7 = .ok (.istore_n 1, 1) := by decide +kernel
theorem d_MT_clear_8 : decode b_MT_clear 8 = .ok (.aload_n 0, 1) := by decide +kernel
theorem d_MT_clear_9 : decode b_MT_clear 9 = .ok (.getfield 20, 3) := by decide +kernel
theorem d_MT_clear_12 : decode b_MT_clear 12 = .ok (.invokevirtual 95, 3) := by decide +kernel
theorem d_MT_clear_15 : decode b_MT_clear 15 = .ok (.aload_n 0, 1) := by decide +kernel
theorem d_MT_clear_16 : decode b_MT_clear 16 = .ok (.aconst_null, 1) := by decide +kernel
theorem d_MT_clear_17 : decode b_MT_clear 17 = .ok (.putfield 24, 3) := by decide +kernel
theorem d_MT_clear_20 : decode b_MT_clear 20 = .ok (.iload_n 1, 1) := by decide +kernel
theorem d_MT_clear_21 : decode b_MT_clear 21 = .ok (.ireturn, 1) := by decide +kernel
theorem d_TR_empty_0 : decode b_TR_empty 0 = .ok (.aload_n 0, 1) := by decide +kernel
theorem d_TR_empty_1 : decode b_TR_empty 1 = .ok (.aconst_null, 1) := by decide +kernel
theorem d_TR_empty_2 : decode b_TR_empty 2 = .ok (.putfield 7, 3) := by decide +kernel
theorem d_TR_empty_5 : decode b_TR_empty 5 = .ok (.aload_n 0, 1) := by decide +kernel
theorem d_TR_empty_6 : decode b_TR_empty 6 = .ok (.iconst 0, 1) := by decide +kernel
theorem d_TR_empty_7 : decode b_TR_empty 7 = .ok (.putfield 13, 3) := by decide +kernel
theorem d_TR_empty_10 : decode b_TR_empty 10 = .ok (.return_, 1) := by decide +kernel
theorem d_MT_count_0 : decode b_MT_count 0 = .ok (.aload_n 0, 1) := by decide +kernel
theorem d_MT_count_1 : decode b_MT_count 1 = .ok (.getfield 20, 3) := by decide +kernel
theorem d_MT_count_4 : decode b_MT_count 4 = .ok (.invokevirtual 98, 3) := by decide +kernel
theorem d_MT_count_7 : decode b_MT_count 7 = .ok (.ireturn, 1) := by decide +kernel
theorem d_TR_countIfSound_0 : decode b_TR_countIfSound 0 = .ok (.aload_n 0, 1) := by decide +kernel
theorem d_TR_countIfSound_1 : decode b_TR_countIfSound 1 = .ok (.getfield 7, 3) := by decide +kernel
theorem d_TR_countIfSound_4 : decode b_TR_countIfSound 4 = .ok (.aconst_null, 1) := by decide +kernel
theorem d_TR_countIfSound_5 : decode b_TR_countIfSound 5 = .ok (.aconst_null, 1) := by decide +kernel
theorem d_TR_countIfSound_6 : decode b_TR_countIfSound 6 = .ok (.iconst 0, 1) := by decide +kernel
theorem d_TR_countIfSound_7 : decode b_TR_countIfSound 7 = .ok (.invokestatic 33, 3) := by decide +kernel
theorem d_TR_countIfSound_10 : decode b_TR_countIfSound 10 = .ok (.ireturn, 1) := by decide +kernel
theorem d_TR_countSound_0 : decode b_TR_countSound 0 = .ok (.aload_n 0, 1) := by decide +kernel
theorem d_TR_countSound_1 : decode b_TR_countSound 1 = .ok (.ifnonnull 5, 3) := by decide +kernel
theorem d_TR_countSound_4 : decode b_TR_countSound 4 = .ok (.iconst 0, 1) := by decide +kernel
theorem d_TR_countSound_5 : decode b_TR_countSound 5 = .ok (.ireturn, 1) := by decide +kernel
theorem d_TR_countSound_6 : decode b_TR_countSound 6 = .ok (.iload_n 3, 1) := by decide +kernel
theorem d_TR_countSound_7 : decode b_TR_countSound 7 = .ok (.bipush 40, 2) := by decide +kernel
theorem d_TR_countSound_9 : decode b_TR_countSound 9 = .ok (.if_icmp .ge 19, 3) := by decide +kernel
theorem d_TR_countSound_12 : decode b_TR_countSound 12 = .ok (.aload_n 0, 1) := by decide +kernel
theorem d_TR_countSound_13 : decode b_TR_countSound 13 = .ok (.invokestatic 73, 3) := by decide +kernel
theorem d_TR_countSound_16 : decode b_TR_countSound 16 = .ok (.ifCond .eq 12, 3) := by decide +kernel
theorem d_TR_countSound_19 : decode b_TR_countSound 19 = .ok (.aload_n 0, 1) := by decide +kernel
theorem d_TR_countSound_20 : decode b_TR_countSound 20 = .ok (.aload_n 1, 1) := by decide +kernel
theorem d_TR_countSound_21 : decode b_TR_countSound 21 = .ok (.aload_n 2, 1) := by decide +kernel
theorem d_TR_countSound_22 : decode b_TR_countSound 22 = .ok (.invokestatic 77, 3) := by decide +kernel
theorem d_TR_countSound_25 : decode b_TR_countSound 25 = .ok (.ifCond .ne 5, 3) := by decide +kernel
theorem d_TR_countSound_28 : decode b_TR_countSound 28 = .ok (.iconst (-1), 1) := by decide +kernel
theorem d_TR_countSound_29 : decode b_TR_countSound 29 = .ok (.ireturn, 1) := by decide +kernel
theorem d_TR_countSound_30 : decode b_TR_countSound 30 = .ok (.aload_n 0, 1) := by decide +kernel
theorem d_TR_countSound_31 : decode b_TR_countSound 31 = .ok (.getfield 23, 3) := by decide +kernel
theorem d_TR_countSound_34 : decode b_TR_countSound 34 = .ok (.aload_n 1, 1) := by decide +kernel
theorem d_TR_countSound_35 : decode b_TR_countSound 35 = .ok (.aload_n 0, 1) := by decide +kernel
theorem d_TR_countSound_36 : decode b_TR_countSound 36 = .ok (.iload_n 3, 1) := by decide +kernel
theorem d_TR_countSound_37 : decode b_TR_countSound 37 = .ok (.iconst 1, 1) := by decide +kernel
theorem d_TR_countSound_38 : decode b_TR_countSound 38 = .ok (.iadd, 1) := by decide +kernel
theorem d_TR_countSound_39 : decode b_TR_countSound 39 = .ok (.invokestatic 33, 3) := by decide +kernel
theorem d_TR_countSound_42 : decode b_TR_countSound 42 = .ok (.istore 4, 2) := by decide +kernel
theorem d_TR_countSound_44 : decode b_TR_countSound 44 = .ok (.aload_n 0, 1) := by decide +kernel
theorem d_TR_countSound_45 : decode b_TR_countSound 45 = .ok (.getfield 26, 3) := by decide +kernel
theorem d_TR_countSound_48 : decode b_TR_countSound 48 = .ok (.aload_n 0, 1) := by decide +kernel
theorem d_TR_countSound_49 : decode b_TR_countSound 49 = .ok (.aload_n 2, 1) := by decide +kernel
theorem d_TR_countSound_50 : decode b_TR_countSound 50 = .ok (.iload_n 3, 1) := by decide +kernel
theorem d_TR_countSound_51 : decode b_TR_countSound 51 = .ok (.iconst 1, 1) := by decide +kernel
theorem d_TR_countSound_52 : decode b_TR_countSound 52 = .ok (.iadd, 1) := by decide +kernel
theorem d_TR_countSound_53 : decode b_TR_countSound 53 = .ok (.invokestatic 33, 3) := by decide +kernel
theorem d_TR_countSound_56 : decode b_TR_countSound 56 = .ok (.istore 5, 2) := by decide +kernel
theorem d_TR_countSound_58 : decode b_TR_countSound 58 = .ok (.iload 4, 2) := by decide +kernel
theorem d_TR_countSound_60 : decode b_TR_countSound 60 = .ok (.ifCond .lt 8, 3) := by decide +kernel
theorem d_TR_countSound_63 : decode b_TR_countSound 63 = .ok (.iload 5, 2) := by decide +kernel
theorem d_TR_countSound_65 : decode b_TR_countSound 65 = .ok (.ifCond .ge 7, 3) := by decide +kernel
theorem d_TR_countSound_68 : decode b_TR_countSound 68 = .ok (.iconst (-1), 1) := by decide +kernel
theorem d_TR_countSound_69 : decode b_TR_countSound 69 = .ok (.goto 10, 3) := by decide +kernel
theorem d_TR_countSound_72 : decode b_TR_countSound 72 = .ok (.iload 4, 2) := by decide +kernel
theorem d_TR_countSound_74 : decode b_TR_countSound 74 = .ok (.iconst 1, 1) := by decide +kernel
theorem d_TR_countSound_75 : decode b_TR_countSound 75 = .ok (.iadd, 1) := by decide +kernel
theorem d_TR_countSound_76 : decode b_TR_countSound 76 = .ok (.iload 5, 2) := by decide +kernel
theorem d_TR_countSound_78 : decode b_TR_countSound 78 = .ok (.iadd, 1) := by decide +kernel
theorem d_TR_countSound_79 : decode b_TR_countSound 79 = .ok (.ireturn, 1) := by decide +kernel
theorem d_TR_isBalanced_0 : decode b_TR_isBalanced 0 = .ok (.aload_n 0, 1) := by decide +kernel
theorem d_TR_isBalanced_1 : decode b_TR_isBalanced 1 = .ok (.invokestatic 55, 3) := by decide +kernel
theorem d_TR_isBalanced_4 : decode b_TR_isBalanced 4 = .ok (.istore_n 1, 1) := by decide +kernel
theorem d_TR_isBalanced_5 : decode b_TR_isBalanced 5 = .ok (.aload_n 0, 1) := by decide +kernel
theorem d_TR_isBalanced_6 : decode b_TR_isBalanced 6 = .ok (.getfield 52, 3) := by decide +kernel
theorem d_TR_isBalanced_9 : decode b_TR_isBalanced 9 = .ok (.aload_n 0, 1) := by decide +kernel
theorem d_TR_isBalanced_10 : decode b_TR_isBalanced 10 = .ok (.invokestatic 48, 3) := by decide +kernel
theorem d_TR_isBalanced_13 : decode b_TR_isBalanced 13 = .ok (.if_icmp .ne 17, 3) := by decide +kernel
theorem d_TR_isBalanced_16 : decode b_TR_isBalanced 16 = .ok (.iload_n 1, 1) := by decide +kernel
theorem d_TR_isBalanced_17 : decode b_TR_isBalanced 17 = .ok (.iconst (-1), 1) := by decide +kernel
theorem d_TR_isBalanced_18 : decode b_TR_isBalanced 18 = .ok (.if_icmp .lt 12, 3) := by decide +kernel
theorem d_TR_isBalanced_21 : decode b_TR_isBalanced 21 = .ok (.iload_n 1, 1) := by decide +kernel
theorem d_TR_isBalanced_22 : decode b_TR_isBalanced 22 = .ok (.iconst 1, 1) := by decide +kernel
theorem d_TR_isBalanced_23 : decode b_TR_isBalanced 23 = .ok (.if_icmp .gt 7, 3) := by decide +kernel
theorem d_TR_isBalanced_26 : decode b_TR_isBalanced 26 = .ok (.iconst 1, 1) := by decide +kernel
theorem d_TR_isBalanced_27 : decode b_TR_isBalanced 27 = .ok (.goto 4, 3) := by decide +kernel
theorem d_TR_isBalanced_30 : decode b_TR_isBalanced 30 = .ok (.iconst 0, 1) := by decide +kernel
theorem d_TR_isBalanced_31 : decode b_TR_isBalanced 31 = .ok (.ireturn, 1) := by decide +kernel
theorem d_TR_leaning_0 : decode b_TR_leaning 0 = .ok (.aload_n 0, 1) := by decide +kernel
theorem d_TR_leaning_1 : decode b_TR_leaning 1 = .ok (.ifnonnull 7, 3) := by decide +kernel
theorem d_TR_leaning_4 : decode b_TR_leaning 4 = .ok (.iconst 0, 1) := by decide +kernel
theorem d_TR_leaning_5 : decode b_TR_leaning 5 = .ok (.goto 18, 3) := by decide +kernel
theorem d_TR_leaning_8 : decode b_TR_leaning 8 = .ok (.aload_n 0, 1) := by decide +kernel
theorem d_TR_leaning_9 : decode b_TR_leaning 9 = .ok (.getfield 23, 3) := by decide +kernel
theorem d_TR_leaning_12 : decode b_TR_leaning 12 = .ok (.invokestatic 64, 3) := by decide +kernel
theorem d_TR_leaning_15 : decode b_TR_leaning 15 = .ok (.aload_n 0, 1) := by decide +kernel
theorem d_TR_leaning_16 : decode b_TR_leaning 16 = .ok (.getfield 26, 3) := by decide +kernel
theorem d_TR_leaning_19 : decode b_TR_leaning 19 = .ok (.invokestatic 64, 3) := by decide +kernel
theorem d_TR_leaning_22 : decode b_TR_leaning 22 = .ok (.isub, 1) := by decide +kernel
theorem d_TR_leaning_23 : decode b_TR_leaning 23 = .ok (.ireturn, 1) := by decide +kernel
theorem d_TR_heightOf_0 : decode b_TR_heightOf 0 = .ok (.aload_n 0, 1) := by decide +kernel
theorem d_TR_heightOf_1 : decode b_TR_heightOf 1 = .ok (.ifnonnull 7, 3) := by decide +kernel
theorem d_TR_heightOf_4 : decode b_TR_heightOf 4 = .ok (.iconst 0, 1) := by decide +kernel
theorem d_TR_heightOf_5 : decode b_TR_heightOf 5 = .ok (.goto 7, 3) := by decide +kernel
theorem d_TR_heightOf_8 : decode b_TR_heightOf 8 = .ok (.aload_n 0, 1) := by decide +kernel
theorem d_TR_heightOf_9 : decode b_TR_heightOf 9 = .ok (.getfield 52, 3) := by decide +kernel
theorem d_TR_heightOf_12 : decode b_TR_heightOf 12 = .ok (.ireturn, 1) := by decide +kernel
theorem d_TR_heightFromSides_0 : decode b_TR_heightFromSides 0 = .ok (.iconst 1, 1) := by decide +kernel
theorem d_TR_heightFromSides_1 : decode b_TR_heightFromSides 1 = .ok (.aload_n 0, 1) := by decide +kernel
theorem d_TR_heightFromSides_2 : decode b_TR_heightFromSides 2 = .ok (.getfield 23, 3) := by decide +kernel
theorem d_TR_heightFromSides_5 : decode b_TR_heightFromSides 5 = .ok (.invokestatic 64, 3) := by decide +kernel
theorem d_TR_heightFromSides_8 : decode b_TR_heightFromSides 8 = .ok (.aload_n 0, 1) := by decide +kernel
theorem d_TR_heightFromSides_9 : decode b_TR_heightFromSides 9 = .ok (.getfield 26, 3) := by decide +kernel
theorem d_TR_heightFromSides_12 : decode b_TR_heightFromSides 12 = .ok (.invokestatic 64, 3) := by decide +kernel
theorem d_TR_heightFromSides_15 : decode b_TR_heightFromSides 15 = .ok (.invokestatic 67, 3) := by decide +kernel
theorem d_TR_heightFromSides_18 : decode b_TR_heightFromSides 18 = .ok (.iadd, 1) := by decide +kernel
theorem d_TR_heightFromSides_19 : decode b_TR_heightFromSides 19 = .ok (.ireturn, 1) := by decide +kernel
theorem d_TR_isBetween_0 : decode b_TR_isBetween 0 = .ok (.aload_n 1, 1) := by decide +kernel
theorem d_TR_isBetween_1 : decode b_TR_isBetween 1 = .ok (.ifnull 18, 3) := by decide +kernel
theorem d_TR_isBetween_4 : decode b_TR_isBetween 4 = .ok (.aload_n 1, 1) := by decide +kernel
theorem d_TR_isBetween_5 : decode b_TR_isBetween 5 = .ok (.aload_n 0, 1) := by decide +kernel
theorem d_TR_isBetween_6 : decode b_TR_isBetween 6 = .ok (.getfield 37, 3) := by decide +kernel
theorem d_TR_isBetween_9 : decode b_TR_isBetween 9 = .ok (.aload_n 0, 1) := by decide +kernel
theorem d_TR_isBetween_10 : decode b_TR_isBetween 10 = .ok (.getfield 41, 3) := by decide +kernel
theorem d_TR_isBetween_13 : decode b_TR_isBetween 13 = .ok (.invokevirtual 17, 3) := by decide +kernel
theorem d_TR_isBetween_16 : decode b_TR_isBetween 16 = .ok (.ifCond .le 26, 3) := by decide +kernel
theorem d_TR_isBetween_19 : decode b_TR_isBetween 19 = .ok (.aload_n 2, 1) := by decide +kernel
theorem d_TR_isBetween_20 : decode b_TR_isBetween 20 = .ok (.ifnull 18, 3) := by decide +kernel
theorem d_TR_isBetween_23 : decode b_TR_isBetween 23 = .ok (.aload_n 2, 1) := by decide +kernel
theorem d_TR_isBetween_24 : decode b_TR_isBetween 24 = .ok (.aload_n 0, 1) := by decide +kernel
theorem d_TR_isBetween_25 : decode b_TR_isBetween 25 = .ok (.getfield 37, 3) := by decide +kernel
theorem d_TR_isBetween_28 : decode b_TR_isBetween 28 = .ok (.aload_n 0, 1) := by decide +kernel
theorem d_TR_isBetween_29 : decode b_TR_isBetween 29 = .ok (.getfield 41, 3) := by decide +kernel
theorem d_TR_isBetween_32 : decode b_TR_isBetween 32 = .ok (.invokevirtual 17, 3) := by decide +kernel
theorem d_TR_isBetween_35 : decode b_TR_isBetween 35 = .ok (.ifCond .ge 7, 3) := by decide +kernel
theorem d_TR_isBetween_38 : decode b_TR_isBetween 38 = .ok (.iconst 1, 1) := by decide +kernel
theorem d_TR_isBetween_39 : decode b_TR_isBetween 39 = .ok (.goto 4, 3) := by decide +kernel
theorem d_TR_isBetween_42 : decode b_TR_isBetween 42 = .ok (.iconst 0, 1) := by decide +kernel
theorem d_TR_isBetween_43 : decode b_TR_isBetween 43 = .ok (.ireturn, 1) := by decide +kernel
theorem d_VE_orderOf_0 : decode b_VE_orderOf 0 = .ok (.aload_n 1, 1) := by decide +kernel
theorem d_VE_orderOf_1 : decode b_VE_orderOf 1 = .ok (.aload_n 0, 1) := by decide +kernel
theorem d_VE_orderOf_2 : decode b_VE_orderOf 2 = .ok (.getfield 7, 3) := by decide +kernel
theorem d_VE_orderOf_5 : decode b_VE_orderOf 5 = .ok (.invokestatic 33, 3) := by decide +kernel
theorem d_VE_orderOf_8 : decode b_VE_orderOf 8 = .ok (.istore_n 3, 1) := by decide +kernel
theorem d_VE_orderOf_9 : decode b_VE_orderOf 9 = .ok (.iload_n 3, 1) := by decide +kernel
theorem d_VE_orderOf_10 : decode b_VE_orderOf 10 = .ok (.ifCond .eq 7, 3) := by decide +kernel
theorem d_VE_orderOf_13 : decode b_VE_orderOf 13 = .ok (.iload_n 3, 1) := by decide +kernel
theorem d_VE_orderOf_14 : decode b_VE_orderOf 14 = .ok (.goto 11, 3) := by decide +kernel
theorem d_VE_orderOf_17 : decode b_VE_orderOf 17 = .ok (.aload_n 0, 1) := by decide +kernel
theorem d_VE_orderOf_18 : decode b_VE_orderOf 18 = .ok (.getfield 13, 3) := by decide +kernel
theorem d_VE_orderOf_21 : decode b_VE_orderOf 21 = .ok (.iload_n 2, 1) := by decide +kernel
theorem d_VE_orderOf_22 : decode b_VE_orderOf 22 = .ok (.invokestatic 37, 3) := by decide +kernel
theorem d_VE_orderOf_25 : decode b_VE_orderOf 25 = .ok (.ireturn, 1) := by decide +kernel
theorem d_VE_orderOfKeys_0 : decode b_VE_orderOfKeys 0 = .ok (.aload_n 0, 1) := by decide +kernel
theorem d_VE_orderOfKeys_1 : decode b_VE_orderOfKeys 1 = .ok (.arraylength, 1) := by decide +kernel
theorem d_VE_orderOfKeys_2 : decode b_VE_orderOfKeys 2 = .ok (.aload_n 1, 1) := by decide +kernel
theorem d_VE_orderOfKeys_3 : decode b_VE_orderOfKeys 3 = .ok (.arraylength, 1) := by decide +kernel
theorem d_VE_orderOfKeys_4 : decode b_VE_orderOfKeys 4 = .ok (.invokestatic 43, 3) := by decide +kernel
theorem d_VE_orderOfKeys_7 : decode b_VE_orderOfKeys 7 = .ok (.istore_n 2, 1) := by decide +kernel
theorem d_VE_orderOfKeys_8 : decode b_VE_orderOfKeys 8 = .ok (.iconst 0, 1) := by decide +kernel
theorem d_VE_orderOfKeys_9 : decode b_VE_orderOfKeys 9 = .ok (.istore_n 3, 1) := by decide +kernel
theorem d_VE_orderOfKeys_10 : decode b_VE_orderOfKeys 10 = .ok (.iload_n 3, 1) := by decide +kernel
theorem d_VE_orderOfKeys_11 : decode b_VE_orderOfKeys 11 = .ok (.iload_n 2, 1) := by decide +kernel
theorem d_VE_orderOfKeys_12 : decode b_VE_orderOfKeys 12 = .ok (.if_icmp .ge 34, 3) := by decide +kernel
theorem d_VE_orderOfKeys_15 : decode b_VE_orderOfKeys 15 = .ok (.aload_n 0, 1) := by decide +kernel
theorem d_VE_orderOfKeys_16 : decode b_VE_orderOfKeys 16 = .ok (.iload_n 3, 1) := by decide +kernel
theorem d_VE_orderOfKeys_17 : decode b_VE_orderOfKeys 17 = .ok (.baload, 1) := by decide +kernel
theorem d_VE_orderOfKeys_18 : decode b_VE_orderOfKeys 18 = .ok (.sipush 255, 3) := by decide +kernel
theorem d_VE_orderOfKeys_21 : decode b_VE_orderOfKeys 21 = .ok (.iand, 1) := by decide +kernel
theorem d_VE_orderOfKeys_22 : decode b_VE_orderOfKeys 22 = .ok (.aload_n 1, 1) := by decide +kernel
theorem d_VE_orderOfKeys_23 : decode b_VE_orderOfKeys 23 = .ok (.iload_n 3, 1) := by decide +kernel
theorem d_VE_orderOfKeys_24 : decode b_VE_orderOfKeys 24 = .ok (.baload, 1) := by decide +kernel
theorem d_VE_orderOfKeys_25 : decode b_VE_orderOfKeys 25 = .ok (.sipush 255, 3) := by decide +kernel
theorem d_VE_orderOfKeys_28 : decode b_VE_orderOfKeys 28 = .ok (.iand, 1) := by decide +kernel
theorem d_VE_orderOfKeys_29 : decode b_VE_orderOfKeys 29 = .ok (.isub, 1) := by decide +kernel
theorem d_VE_orderOfKeys_30 : decode b_VE_orderOfKeys 30 = .ok (.istore 4, 2) := by decide +kernel
theorem d_VE_orderOfKeys_32 : decode b_VE_orderOfKeys 32 = .ok (.iload 4, 2) := by decide +kernel
theorem d_VE_orderOfKeys_34 : decode b_VE_orderOfKeys 34 = .ok (.ifCond .eq 6, 3) := by decide +kernel
theorem d_VE_orderOfKeys_37 : decode b_VE_orderOfKeys 37 = .ok (.iload 4, 2) := by decide +kernel
theorem d_VE_orderOfKeys_39 : decode b_VE_orderOfKeys 39 = .ok (.ireturn, 1) := by decide +kernel
theorem d_VE_orderOfKeys_40 : decode b_VE_orderOfKeys 40 = .ok (.iinc 3 1, 3) := by decide +kernel
theorem d_VE_orderOfKeys_43 : decode b_VE_orderOfKeys 43 = .ok (.goto (-33), 3) := by decide +kernel
theorem d_VE_orderOfKeys_46 : decode b_VE_orderOfKeys 46 = .ok (.aload_n 0, 1) := by decide +kernel
theorem d_VE_orderOfKeys_47 : decode b_VE_orderOfKeys 47 = .ok (.arraylength, 1) := by decide +kernel
theorem d_VE_orderOfKeys_48 : decode b_VE_orderOfKeys 48 = .ok (.aload_n 1, 1) := by decide +kernel
theorem d_VE_orderOfKeys_49 : decode b_VE_orderOfKeys 49 = .ok (.arraylength, 1) := by decide +kernel
theorem d_VE_orderOfKeys_50 : decode b_VE_orderOfKeys 50 = .ok (.isub, 1) := by decide +kernel
theorem d_VE_orderOfKeys_51 : decode b_VE_orderOfKeys 51 = .ok (.ireturn, 1) := by decide +kernel
theorem d_JI_compare_0 : decode b_JI_compare 0 = .ok (.iload_n 0, 1) := by decide +kernel
theorem d_JI_compare_1 : decode b_JI_compare 1 = .ok (.iload_n 1, 1) := by decide +kernel
theorem d_JI_compare_2 : decode b_JI_compare 2 = .ok (.if_icmp .ge 7, 3) := by decide +kernel
theorem d_JI_compare_5 : decode b_JI_compare 5 = .ok (.iconst (-1), 1) := by decide +kernel
theorem d_JI_compare_6 : decode b_JI_compare 6 = .ok (.goto 13, 3) := by decide +kernel
theorem d_JI_compare_9 : decode b_JI_compare 9 = .ok (.iload_n 0, 1) := by decide +kernel
theorem d_JI_compare_10 : decode b_JI_compare 10 = .ok (.iload_n 1, 1) := by decide +kernel
theorem d_JI_compare_11 : decode b_JI_compare 11 = .ok (.if_icmp .ne 7, 3) := by decide +kernel
theorem d_JI_compare_14 : decode b_JI_compare 14 = .ok (.iconst 0, 1) := by decide +kernel
theorem d_JI_compare_15 : decode b_JI_compare 15 = .ok (.goto 4, 3) := by decide +kernel
theorem d_JI_compare_18 : decode b_JI_compare 18 = .ok (.iconst 1, 1) := by decide +kernel
theorem d_JI_compare_19 : decode b_JI_compare 19 = .ok (.ireturn, 1) := by decide +kernel
theorem d_LA_feed_0 : decode b_LA_feed 0 = .ok (.aload 6, 2) := by decide +kernel
theorem d_LA_feed_2 : decode b_LA_feed 2 = .ok (.iconst 0, 1) := by decide +kernel
theorem d_LA_feed_3 : decode b_LA_feed 3 = .ok (.aload_n 0, 1) := by decide +kernel
theorem d_LA_feed_4 : decode b_LA_feed 4 = .ok (.iload_n 1, 1) := by decide +kernel
theorem d_LA_feed_5 : decode b_LA_feed 5 = .ok (.iload_n 2, 1) := by decide +kernel
theorem d_LA_feed_6 : decode b_LA_feed 6 = .ok (.iload_n 3, 1) := by decide +kernel
theorem d_LA_feed_7 : decode b_LA_feed 7 = .ok (.iload 4, 2) := by decide +kernel
theorem d_LA_feed_9 : decode b_LA_feed 9 = .ok (.iload 5, 2) := by decide +kernel
theorem d_LA_feed_11 : decode b_LA_feed 11 = .ok (.invokevirtual 7, 3) := by decide +kernel
theorem d_LA_feed_14 : decode b_LA_feed 14 = .ok (.i2l, 1) := by decide +kernel
theorem d_LA_feed_15 : decode b_LA_feed 15 = .ok (.lastore, 1) := by decide +kernel
theorem d_LA_feed_16 : decode b_LA_feed 16 = .ok (.goto 7, 3) := by decide +kernel
theorem d_LA_feed_19 : decode b_LA_feed 19 = .ok (.astore 7, 2) := by decide +kernel
theorem d_LA_feed_21 : decode b_LA_feed 21 = .ok (.iconst 1, 1) := by decide +kernel
theorem d_LA_feed_22 : decode b_LA_feed 22 = .ok (.ireturn, 1) := by decide +kernel
theorem d_LA_feed_23 : decode b_LA_feed 23 = .ok (.iconst 0, 1) := by decide +kernel
theorem d_LA_feed_24 : decode b_LA_feed 24 = .ok (.ireturn, 1) := by decide +kernel
theorem d_MT_feed_0 : decode b_MT_feed 0 = .ok (.aload_n 0, 1) := by decide +kernel
theorem d_MT_feed_1 : decode b_MT_feed 1 = .ok (.getfield 13, 3) := by decide +kernel
theorem d_MT_feed_4 : decode b_MT_feed 4 = .ok (.bipush 40, 2) := by decide +kernel
theorem d_MT_feed_6 : decode b_MT_feed 6 = .ok (.if_icmp .le 11, 3) := by decide +kernel
theorem d_MT_feed_9 : decode b_MT_feed 9 = .ok (.new 28, 3) := by decide +kernel
theorem d_MT_feed_12 : decode b_MT_feed 12 = .ok (.dup, 1) := by decide +kernel
theorem d_MT_feed_13 : decode b_MT_feed 13 = .ok (.invokespecial 30, 3) := by decide +kernel
theorem d_MT_feed_16 : decode b_MT_feed 16 = .ok (.athrow, 1) := by decide +kernel
theorem d_MT_feed_17 : decode b_MT_feed 17 = .ok (.aload_n 0, 1) := by decide +kernel
theorem d_MT_feed_18 : decode b_MT_feed 18 = .ok (.iload_n 1, 1) := by decide +kernel
theorem d_MT_feed_19 : decode b_MT_feed 19 = .ok (.invokevirtual 31, 3) := by decide +kernel
theorem d_MT_feed_22 : decode b_MT_feed 22 = .ok (.aload_n 0, 1) := by decide +kernel
theorem d_MT_feed_23 : decode b_MT_feed 23 = .ok (.iload_n 2, 1) := by decide +kernel
theorem d_MT_feed_24 : decode b_MT_feed 24 = .ok (.invokevirtual 31, 3) := by decide +kernel
theorem d_MT_feed_27 : decode b_MT_feed 27 = .ok (.aload_n 0, 1) := by decide +kernel
theorem d_MT_feed_28 : decode b_MT_feed 28 = .ok (.iload_n 3, 1) := by decide +kernel
theorem d_MT_feed_29 : decode b_MT_feed 29 = .ok (.invokevirtual 31, 3) := by decide +kernel
theorem d_MT_feed_32 : decode b_MT_feed 32 = .ok (.aload_n 0, 1) := by decide +kernel
theorem d_MT_feed_33 : decode b_MT_feed 33 = .ok (.iload 4, 2) := by decide +kernel
theorem d_MT_feed_35 : decode b_MT_feed 35 = .ok (.invokevirtual 31, 3) := by decide +kernel
theorem d_MT_feed_38 : decode b_MT_feed 38 = .ok (.aload_n 0, 1) := by decide +kernel
theorem d_MT_feed_39 : decode b_MT_feed 39 = .ok (.iload 5, 2) := by decide +kernel
theorem d_MT_feed_41 : decode b_MT_feed 41 = .ok (.invokevirtual 31, 3) := by decide +kernel
theorem d_MT_feed_44 : decode b_MT_feed 44 = .ok (.aload_n 0, 1) := by decide +kernel
theorem d_MT_feed_45 : decode b_MT_feed 45 = .ok (.getfield 13, 3) := by decide +kernel
theorem d_MT_feed_48 : decode b_MT_feed 48 = .ok (.ireturn, 1) := by decide +kernel
theorem d_MT_append_0 : decode b_MT_append 0 = .ok (.bipush 24, 2) := by decide +kernel
theorem d_MT_append_2 : decode b_MT_append 2 = .ok (.istore_n 2, 1) := by decide +kernel
theorem d_MT_append_3 : decode b_MT_append 3 = .ok (.iload_n 2, 1) := by decide +kernel
theorem d_MT_append_4 : decode b_MT_append 4 = .ok (.ifCond .lt 41, 3) := by decide +kernel
theorem d_MT_append_7 : decode b_MT_append 7 = .ok (.aload_n 0, 1) := by decide +kernel
theorem d_MT_append_8 : decode b_MT_append 8 = .ok (.getfield 13, 3) := by decide +kernel
theorem d_MT_append_11 : decode b_MT_append 11 = .ok (.bipush 60, 2) := by decide +kernel
theorem d_MT_append_13 : decode b_MT_append 13 = .ok (.if_icmp .ge 32, 3) := by decide +kernel
theorem d_MT_append_16 : decode b_MT_append 16 = .ok (.aload_n 0, 1) := by decide +kernel
theorem d_MT_append_17 : decode b_MT_append 17 = .ok (.getfield 9, 3) := by decide +kernel
theorem d_MT_append_20 : decode b_MT_append 20 = .ok (.aload_n 0, 1) := by decide +kernel
theorem d_MT_append_21 : decode b_MT_append 21 = .ok (.getfield 13, 3) := by decide +kernel
theorem d_MT_append_24 : decode b_MT_append 24 = .ok (.iload_n 1, 1) := by decide +kernel
theorem d_MT_append_25 : decode b_MT_append 25 = .ok (.iload_n 2, 1) := by decide +kernel
theorem d_MT_append_26 : decode b_MT_append 26 = .ok (.ishr, 1) := by decide +kernel
theorem d_MT_append_27 : decode b_MT_append 27 = .ok (.i2b, 1) := by decide +kernel
theorem d_MT_append_28 : decode b_MT_append 28 = .ok (.bastore, 1) := by decide +kernel
theorem d_MT_append_29 : decode b_MT_append 29 = .ok (.aload_n 0, 1) := by decide +kernel
theorem d_MT_append_30 : decode b_MT_append 30 = .ok (.dup, 1) := by decide +kernel
theorem d_MT_append_31 : decode b_MT_append 31 = .ok (.getfield 13, 3) := by decide +kernel
theorem d_MT_append_34 : decode b_MT_append 34 = .ok (.iconst 1, 1) := by decide +kernel
theorem d_MT_append_35 : decode b_MT_append 35 = .ok (.iadd, 1) := by decide +kernel
theorem d_MT_append_36 : decode b_MT_append 36 = .ok (.putfield 13, 3) := by decide +kernel
theorem d_MT_append_39 : decode b_MT_append 39 = .ok (.iinc 2 (-8), 3) := by decide +kernel
theorem d_MT_append_42 : decode b_MT_append 42 = .ok (.goto (-39), 3) := by decide +kernel
theorem d_MT_append_45 : decode b_MT_append 45 = .ok (.return_, 1) := by decide +kernel
theorem d_LA_end_0 : decode b_LA_end 0 = .ok (.aload_n 2, 1) := by decide +kernel
theorem d_LA_end_1 : decode b_LA_end 1 = .ok (.iconst 0, 1) := by decide +kernel
theorem d_LA_end_2 : decode b_LA_end 2 = .ok (.aload_n 0, 1) := by decide +kernel
theorem d_LA_end_3 : decode b_LA_end 3 = .ok (.iload_n 1, 1) := by decide +kernel
theorem d_LA_end_4 : decode b_LA_end 4 = .ok (.invokevirtual 15, 3) := by decide +kernel
theorem d_LA_end_7 : decode b_LA_end 7 = .ok (.i2l, 1) := by decide +kernel
theorem d_LA_end_8 : decode b_LA_end 8 = .ok (.lastore, 1) := by decide +kernel
theorem d_LA_end_9 : decode b_LA_end 9 = .ok (.goto 6, 3) := by decide +kernel
theorem d_LA_end_12 : decode b_LA_end 12 = .ok (.astore_n 3, 1) := by decide +kernel
theorem d_LA_end_13 : decode b_LA_end 13 = .ok (.iconst 1, 1) := by decide +kernel
theorem d_LA_end_14 : decode b_LA_end 14 = .ok (.ireturn, 1) := by decide +kernel
theorem d_LA_end_15 : decode b_LA_end 15 = .ok (.iconst 0, 1) := by decide +kernel
theorem d_LA_end_16 : decode b_LA_end 16 = .ok (.ireturn, 1) := by decide +kernel
theorem d_MT_end_0 : decode b_MT_end 0 = .ok (.iload_n 1, 1) := by decide +kernel
theorem d_MT_end_1 : decode b_MT_end 1 = .ok (.ifCond .lt 11, 3) := by decide +kernel
theorem d_MT_end_4 : decode b_MT_end 4 = .ok (.iload_n 1, 1) := by decide +kernel
theorem d_MT_end_5 : decode b_MT_end 5 = .ok (.aload_n 0, 1) := by decide +kernel
theorem d_MT_end_6 : decode b_MT_end 6 = .ok (.getfield 13, 3) := by decide +kernel
theorem d_MT_end_9 : decode b_MT_end 9 = .ok (.if_icmp .le 11, 3) := by decide +kernel
theorem d_MT_end_12 : decode b_MT_end 12 = .ok (.new 35, 3) := by decide +kernel
theorem d_MT_end_15 : decode b_MT_end 15 = .ok (.dup, 1) := by decide +kernel
theorem d_MT_end_16 : decode b_MT_end 16 = .ok (.invokespecial 37, 3) := by decide +kernel
theorem d_MT_end_19 : decode b_MT_end 19 = .ok (.athrow, 1) := by decide +kernel
theorem d_MT_end_20 : decode b_MT_end 20 = .ok (.aload_n 0, 1) := by decide +kernel
theorem d_MT_end_21 : decode b_MT_end 21 = .ok (.iload_n 1, 1) := by decide +kernel
theorem d_MT_end_22 : decode b_MT_end 22 = .ok (.putfield 13, 3) := by decide +kernel
theorem d_MT_end_25 : decode b_MT_end 25 = .ok (.iload_n 1, 1) := by decide +kernel
theorem d_MT_end_26 : decode b_MT_end 26 = .ok (.ireturn, 1) := by decide +kernel
theorem d_LA_put_0 : decode b_LA_put 0 = .ok (.aload 4, 2) := by decide +kernel
theorem d_LA_put_2 : decode b_LA_put 2 = .ok (.iconst 0, 1) := by decide +kernel
theorem d_LA_put_3 : decode b_LA_put 3 = .ok (.aload_n 0, 1) := by decide +kernel
theorem d_LA_put_4 : decode b_LA_put 4 = .ok (.iload_n 1, 1) := by decide +kernel
theorem d_LA_put_5 : decode b_LA_put 5 = .ok (.iload_n 2, 1) := by decide +kernel
theorem d_LA_put_6 : decode b_LA_put 6 = .ok (.iload_n 3, 1) := by decide +kernel
theorem d_LA_put_7 : decode b_LA_put 7 = .ok (.invokevirtual 21, 3) := by decide +kernel
theorem d_LA_put_10 : decode b_LA_put 10 = .ok (.i2l, 1) := by decide +kernel
theorem d_LA_put_11 : decode b_LA_put 11 = .ok (.lastore, 1) := by decide +kernel
theorem d_LA_put_12 : decode b_LA_put 12 = .ok (.goto 11, 3) := by decide +kernel
theorem d_LA_put_15 : decode b_LA_put 15 = .ok (.astore 5, 2) := by decide +kernel
theorem d_LA_put_17 : decode b_LA_put 17 = .ok (.iconst 1, 1) := by decide +kernel
theorem d_LA_put_18 : decode b_LA_put 18 = .ok (.ireturn, 1) := by decide +kernel
theorem d_LA_put_19 : decode b_LA_put 19 = .ok (.astore 5, 2) := by decide +kernel
theorem d_LA_put_21 : decode b_LA_put 21 = .ok (.iconst 2, 1) := by decide +kernel
theorem d_LA_put_22 : decode b_LA_put 22 = .ok (.ireturn, 1) := by decide +kernel
theorem d_LA_put_23 : decode b_LA_put 23 = .ok (.iconst 0, 1) := by decide +kernel
theorem d_LA_put_24 : decode b_LA_put 24 = .ok (.ireturn, 1) := by decide +kernel
theorem d_MT_put_0 : decode b_MT_put 0 = .ok (.iload_n 1, 1) := by decide +kernel
theorem d_MT_put_1 : decode b_MT_put 1 = .ok (.ifCond .lt 26, 3) := by decide +kernel
theorem d_MT_put_4 : decode b_MT_put 4 = .ok (.iload_n 2, 1) := by decide +kernel
theorem d_MT_put_5 : decode b_MT_put 5 = .ok (.iconst (-1), 1) := by decide +kernel
theorem d_MT_put_6 : decode b_MT_put 6 = .ok (.if_icmp .lt 21, 3) := by decide +kernel
theorem d_MT_put_9 : decode b_MT_put 9 = .ok (.iload_n 3, 1) := by decide +kernel
theorem d_MT_put_10 : decode b_MT_put 10 = .ok (.ifCond .lt 17, 3) := by decide +kernel
theorem d_MT_put_13 : decode b_MT_put 13 = .ok (.iload_n 3, 1) := by decide +kernel
theorem d_MT_put_14 : decode b_MT_put 14 = .ok (.sipush 1000, 3) := by decide +kernel
theorem d_MT_put_17 : decode b_MT_put 17 = .ok (.if_icmp .gt 10, 3) := by decide +kernel
theorem d_MT_put_20 : decode b_MT_put 20 = .ok (.aload_n 0, 1) := by decide +kernel
theorem d_MT_put_21 : decode b_MT_put 21 = .ok (.invokevirtual 38, 3) := by decide +kernel
theorem d_MT_put_24 : decode b_MT_put 24 = .ok (.ifCond .ne 11, 3) := by decide +kernel
theorem d_MT_put_27 : decode b_MT_put 27 = .ok (.new 35, 3) := by decide +kernel
theorem d_MT_put_30 : decode b_MT_put 30 = .ok (.dup, 1) := by decide +kernel
theorem d_MT_put_31 : decode b_MT_put 31 = .ok (.invokespecial 37, 3) := by decide +kernel
theorem d_MT_put_34 : decode b_MT_put 34 = .ok (.athrow, 1) := by decide +kernel
theorem d_MT_put_35 : decode b_MT_put 35 = .ok (.aload_n 0, 1) := by decide +kernel
theorem d_MT_put_36 : decode b_MT_put 36 = .ok (.invokevirtual 42, 3) := by decide +kernel
theorem d_MT_put_39 : decode b_MT_put 39 = .ok (.astore 4, 2) := by decide +kernel
theorem d_MT_put_41 : decode b_MT_put 41 = .ok (.aload_n 0, 1) := by decide +kernel
theorem d_MT_put_42 : decode b_MT_put 42 = .ok (.getfield 20, 3) := by decide +kernel
theorem d_MT_put_45 : decode b_MT_put 45 = .ok (.aload 4, 2) := by decide +kernel
theorem d_MT_put_47 : decode b_MT_put 47 = .ok (.iload_n 1, 1) := by decide +kernel
theorem d_MT_put_48 : decode b_MT_put 48 = .ok (.iconst 0, 1) := by decide +kernel
theorem d_MT_put_49 : decode b_MT_put 49 = .ok (.invokevirtual 46, 3) := by decide +kernel
theorem d_MT_put_52 : decode b_MT_put 52 = .ok (.astore 5, 2) := by decide +kernel
theorem d_MT_put_54 : decode b_MT_put 54 = .ok (.aload 5, 2) := by decide +kernel
theorem d_MT_put_56 : decode b_MT_put 56 = .ok (.ifnull 34, 3) := by decide +kernel
theorem d_MT_put_59 : decode b_MT_put 59 = .ok (.aload 5, 2) := by decide +kernel
theorem d_MT_put_61 : decode b_MT_put 61 = .ok (.aload 4, 2) := by decide +kernel
theorem d_MT_put_63 : decode b_MT_put 63 = .ok (.iload_n 1, 1) := by decide +kernel
theorem d_MT_put_64 : decode b_MT_put 64 = .ok (.invokevirtual 50, 3) := by decide +kernel
theorem d_MT_put_67 : decode b_MT_put 67 = .ok (.ifCond .ne 23, 3) := by decide +kernel
theorem d_MT_put_70 : decode b_MT_put 70 = .ok (.aload 5, 2) := by decide +kernel
theorem d_MT_put_72 : decode b_MT_put 72 = .ok (.iload_n 2, 1) := by decide +kernel
theorem d_MT_put_73 : decode b_MT_put 73 = .ok (.putfield 56, 3) := by decide +kernel
theorem d_MT_put_76 : decode b_MT_put 76 = .ok (.aload 5, 2) := by decide +kernel
theorem d_MT_put_78 : decode b_MT_put 78 = .ok (.iload_n 3, 1) := by decide +kernel
theorem d_MT_put_79 : decode b_MT_put 79 = .ok (.putfield 59, 3) := by decide +kernel
theorem d_MT_put_82 : decode b_MT_put 82 = .ok (.aload_n 0, 1) := by decide +kernel
theorem d_MT_put_83 : decode b_MT_put 83 = .ok (.getfield 20, 3) := by decide +kernel
theorem d_MT_put_86 : decode b_MT_put 86 = .ok (.getfield 62, 3) := by decide +kernel
theorem d_MT_put_89 : decode b_MT_put 89 = .ok (.ireturn, 1) := by decide +kernel
theorem d_MT_put_90 : decode b_MT_put 90 = .ok (.aload_n 0, 1) := by decide +kernel
theorem d_MT_put_91 : decode b_MT_put 91 = .ok (.getfield 20, 3) := by decide +kernel
theorem d_MT_put_94 : decode b_MT_put 94 = .ok (.getfield 62, 3) := by decide +kernel
theorem d_MT_put_97 : decode b_MT_put 97 = .ok (.sipush 160, 3) := by decide +kernel
theorem d_MT_put_100 : decode b_MT_put 100 = .ok (.if_icmp .lt 11, 3) := by decide +kernel
theorem d_MT_put_103 : decode b_MT_put 103 = .ok (.new 65, 3) := by decide +kernel
theorem d_MT_put_106 : decode b_MT_put 106 = .ok (.dup, 1) := by decide +kernel
theorem d_MT_put_107 : decode b_MT_put 107 = .ok (.invokespecial 67, 3) := by decide +kernel
theorem d_MT_put_110 : decode b_MT_put 110 = .ok (.athrow, 1) := by decide +kernel
theorem d_MT_put_111 : decode b_MT_put 111 = .ok (.aload_n 0, 1) := by decide +kernel
theorem d_MT_put_112 : decode b_MT_put 112 = .ok (.getfield 20, 3) := by decide +kernel
theorem d_MT_put_115 : decode b_MT_put 115 = .ok (.new 51, 3) := by decide +kernel
theorem d_MT_put_118 : decode b_MT_put 118 = .ok (.dup, 1) := by decide +kernel
theorem d_MT_put_119 : decode b_MT_put 119 = .ok (.aload 4, 2) := by decide +kernel
theorem d_MT_put_121 : decode b_MT_put 121 = .ok (.iload_n 1, 1) := by decide +kernel
theorem d_MT_put_122 : decode b_MT_put 122 = .ok (.iload_n 2, 1) := by decide +kernel
theorem d_MT_put_123 : decode b_MT_put 123 = .ok (.iload_n 3, 1) := by decide +kernel
theorem d_MT_put_124 : decode b_MT_put 124 = .ok (.invokespecial 68, 3) := by decide +kernel
theorem d_MT_put_127 : decode b_MT_put 127 = .ok (.invokevirtual 71, 3) := by decide +kernel
theorem d_MT_put_130 : decode b_MT_put 130 = .ok (.aload_n 0, 1) := by decide +kernel
theorem d_MT_put_131 : decode b_MT_put 131 = .ok (.getfield 20, 3) := by decide +kernel
theorem d_MT_put_134 : decode b_MT_put 134 = .ok (.getfield 62, 3) := by decide +kernel
theorem d_MT_put_137 : decode b_MT_put 137 = .ok (.ireturn, 1) := by decide +kernel
theorem d_MT_tapeIsKey_0 : decode b_MT_tapeIsKey 0 = .ok (.aload_n 0, 1) := by decide +kernel
theorem d_MT_tapeIsKey_1 : decode b_MT_tapeIsKey 1 = .ok (.getfield 13, 3) := by decide +kernel
theorem d_MT_tapeIsKey_4 : decode b_MT_tapeIsKey 4 = .ok (.iconst 1, 1) := by decide +kernel
theorem d_MT_tapeIsKey_5 : decode b_MT_tapeIsKey 5 = .ok (.if_icmp .lt 16, 3) := by decide +kernel
theorem d_MT_tapeIsKey_8 : decode b_MT_tapeIsKey 8 = .ok (.aload_n 0, 1) := by decide +kernel
theorem d_MT_tapeIsKey_9 : decode b_MT_tapeIsKey 9 = .ok (.getfield 13, 3) := by decide +kernel
theorem d_MT_tapeIsKey_12 : decode b_MT_tapeIsKey 12 = .ok (.bipush 40, 2) := by decide +kernel
theorem d_MT_tapeIsKey_14 : decode b_MT_tapeIsKey 14 = .ok (.if_icmp .gt 7, 3) := by decide +kernel
theorem d_MT_tapeIsKey_17 : decode b_MT_tapeIsKey 17 = .ok (.iconst 1, 1) := by decide +kernel
theorem d_MT_tapeIsKey_18 : decode b_MT_tapeIsKey 18 = .ok (.goto 4, 3) := by decide +kernel
theorem d_MT_tapeIsKey_21 : decode b_MT_tapeIsKey 21 = .ok (.iconst 0, 1) := by decide +kernel
theorem d_MT_tapeIsKey_22 : decode b_MT_tapeIsKey 22 = .ok (.ireturn, 1) := by decide +kernel
theorem d_MT_takeTape_0 : decode b_MT_takeTape 0 = .ok (.aload_n 0, 1) := by decide +kernel
theorem d_MT_takeTape_1 : decode b_MT_takeTape 1 = .ok (.getfield 9, 3) := by decide +kernel
theorem d_MT_takeTape_4 : decode b_MT_takeTape 4 = .ok (.aload_n 0, 1) := by decide +kernel
theorem d_MT_takeTape_5 : decode b_MT_takeTape 5 = .ok (.getfield 13, 3) := by decide +kernel
theorem d_MT_takeTape_8 : decode b_MT_takeTape 8 = .ok (.invokestatic 102, 3) := by decide +kernel
theorem d_MT_takeTape_11 : decode b_MT_takeTape 11 = .ok (.astore_n 1, 1) := by decide +kernel
theorem d_MT_takeTape_12 : decode b_MT_takeTape 12 = .ok (.aload_n 0, 1) := by decide +kernel
theorem d_MT_takeTape_13 : decode b_MT_takeTape 13 = .ok (.iconst 0, 1) := by decide +kernel
theorem d_MT_takeTape_14 : decode b_MT_takeTape 14 = .ok (.putfield 13, 3) := by decide +kernel
theorem d_MT_takeTape_17 : decode b_MT_takeTape 17 = .ok (.aload_n 1, 1) := by decide +kernel
theorem d_MT_takeTape_18 : decode b_MT_takeTape 18 = .ok (.areturn, 1) := by decide +kernel
theorem d_JA_copyOf_0 : decode b_JA_copyOf 0 = .ok (.iload_n 1, 1) := by decide +kernel
theorem d_JA_copyOf_1 : decode b_JA_copyOf 1 = .ok (.aload_n 0, 1) := by decide +kernel
theorem d_JA_copyOf_2 : decode b_JA_copyOf 2 = .ok (.arraylength, 1) := by decide +kernel
theorem d_JA_copyOf_3 : decode b_JA_copyOf 3 = .ok (.if_icmp .ne 11, 3) := by decide +kernel
theorem d_JA_copyOf_6 : decode b_JA_copyOf 6 = .ok (.aload_n 0, 1) := by decide +kernel
theorem d_JA_copyOf_7 : decode b_JA_copyOf 7 = .ok (.invokevirtual 310, 3) := by decide +kernel
theorem d_JA_copyOf_10 : decode b_JA_copyOf 10 = .ok (.checkcast 311, 3) := by decide +kernel
theorem d_JA_copyOf_13 : decode b_JA_copyOf 13 = .ok (.areturn, 1) := by decide +kernel
theorem d_JA_copyOf_14 : decode b_JA_copyOf 14 = .ok (.iload_n 1, 1) := by decide +kernel
theorem d_JA_copyOf_15 : decode b_JA_copyOf 15 = .ok (.newarray .byte, 2) := by decide +kernel
theorem d_JA_copyOf_17 : decode b_JA_copyOf 17 = .ok (.astore_n 2, 1) := by decide +kernel
theorem d_JA_copyOf_18 : decode b_JA_copyOf 18 = .ok (.aload_n 0, 1) := by decide +kernel
theorem d_JA_copyOf_19 : decode b_JA_copyOf 19 = .ok (.iconst 0, 1) := by decide +kernel
theorem d_JA_copyOf_20 : decode b_JA_copyOf 20 = .ok (.aload_n 2, 1) := by decide +kernel
theorem d_JA_copyOf_21 : decode b_JA_copyOf 21 = .ok (.iconst 0, 1) := by decide +kernel
theorem d_JA_copyOf_22 : decode b_JA_copyOf 22 = .ok (.aload_n 0, 1) := by decide +kernel
theorem d_JA_copyOf_23 : decode b_JA_copyOf 23 = .ok (.arraylength, 1) := by decide +kernel
theorem d_JA_copyOf_24 : decode b_JA_copyOf 24 = .ok (.iload_n 1, 1) := by decide +kernel
theorem d_JA_copyOf_25 : decode b_JA_copyOf 25 = .ok (.invokestatic 304, 3) := by decide +kernel
theorem d_JA_copyOf_28 : decode b_JA_copyOf 28 = .ok (.invokestatic 150, 3) := by decide +kernel
theorem d_JA_copyOf_31 : decode b_JA_copyOf 31 = .ok (.aload_n 2, 1) := by decide +kernel
theorem d_JA_copyOf_32 : decode b_JA_copyOf 32 = .ok (.areturn, 1) := by decide +kernel
theorem d_TR_firstFrom_0 : decode b_TR_firstFrom 0 = .ok (.aconst_null, 1) := by decide +kernel
theorem d_TR_firstFrom_1 : decode b_TR_firstFrom 1 = .ok (.astore 4, 2) := by decide +kernel
theorem d_TR_firstFrom_3 : decode b_TR_firstFrom 3 = .ok (.aload_n 0, 1) := by decide +kernel
theorem d_TR_firstFrom_4 : decode b_TR_firstFrom 4 = .ok (.getfield 7, 3) := by decide +kernel
theorem d_TR_firstFrom_7 : decode b_TR_firstFrom 7 = .ok (.astore 5, 2) := by decide +kernel
theorem d_TR_firstFrom_9 : decode b_TR_firstFrom 9 = .ok (.iconst 0, 1) := by decide +kernel
theorem d_TR_firstFrom_10 : decode b_TR_firstFrom 10 = .ok (.istore 6, 2) := by decide +kernel
theorem d_TR_firstFrom_12 : decode b_TR_firstFrom 12 = .ok (.aload 5, 2) := by decide +kernel
theorem d_TR_firstFrom_14 : decode b_TR_firstFrom 14 = .ok (.ifnull 60, 3) := by decide +kernel
theorem d_TR_firstFrom_17 : decode b_TR_firstFrom 17 = .ok (.iload 6, 2) := by decide +kernel
theorem d_TR_firstFrom_19 : decode b_TR_firstFrom 19 = .ok (.bipush 40, 2) := by decide +kernel
theorem d_TR_firstFrom_21 : decode b_TR_firstFrom 21 = .ok (.if_icmp .ge 53, 3) := by decide +kernel
theorem d_TR_firstFrom_24 : decode b_TR_firstFrom 24 = .ok (.aload 5, 2) := by decide +kernel
theorem d_TR_firstFrom_26 : decode b_TR_firstFrom 26 = .ok (.aload_n 1, 1) := by decide +kernel
theorem d_TR_firstFrom_27 : decode b_TR_firstFrom 27 = .ok (.iload_n 2, 1) := by decide +kernel
theorem d_TR_firstFrom_28 : decode b_TR_firstFrom 28 = .ok (.invokevirtual 17, 3) := by decide +kernel
theorem d_TR_firstFrom_31 : decode b_TR_firstFrom 31 = .ok (.istore 7, 2) := by decide +kernel
theorem d_TR_firstFrom_33 : decode b_TR_firstFrom 33 = .ok (.iload 7, 2) := by decide +kernel
theorem d_TR_firstFrom_35 : decode b_TR_firstFrom 35 = .ok (.ifCond .lt 12, 3) := by decide +kernel
theorem d_TR_firstFrom_38 : decode b_TR_firstFrom 38 = .ok (.iload 7, 2) := by decide +kernel
theorem d_TR_firstFrom_40 : decode b_TR_firstFrom 40 = .ok (.ifCond .ne 21, 3) := by decide +kernel
theorem d_TR_firstFrom_43 : decode b_TR_firstFrom 43 = .ok (.iload_n 3, 1) := by decide +kernel
theorem d_TR_firstFrom_44 : decode b_TR_firstFrom 44 = .ok (.ifCond .ne 17, 3) := by decide +kernel
theorem d_TR_firstFrom_47 : decode b_TR_firstFrom 47 = .ok (.aload 5, 2) := by decide +kernel
theorem d_TR_firstFrom_49 : decode b_TR_firstFrom 49 = .ok (.astore 4, 2) := by decide +kernel
theorem d_TR_firstFrom_51 : decode b_TR_firstFrom 51 = .ok (.aload 5, 2) := by decide +kernel
theorem d_TR_firstFrom_53 : decode b_TR_firstFrom 53 = .ok (.getfield 23, 3) := by decide +kernel
theorem d_TR_firstFrom_56 : decode b_TR_firstFrom 56 = .ok (.astore 5, 2) := by decide +kernel
theorem d_TR_firstFrom_58 : decode b_TR_firstFrom 58 = .ok (.goto 10, 3) := by decide +kernel
theorem d_TR_firstFrom_61 : decode b_TR_firstFrom 61 = .ok (.aload 5, 2) := by decide +kernel
theorem d_TR_firstFrom_63 : decode b_TR_firstFrom 63 = .ok (.getfield 26, 3) := by decide +kernel
theorem d_TR_firstFrom_66 : decode b_TR_firstFrom 66 = .ok (.astore 5, 2) := by decide +kernel
theorem d_TR_firstFrom_68 : decode b_TR_firstFrom 68 = .ok (.iinc 6 1, 3) := by decide +kernel
theorem d_TR_firstFrom_71 : decode b_TR_firstFrom 71 = .ok (.goto (-59), 3) := by decide +kernel
theorem d_TR_firstFrom_74 : decode b_TR_firstFrom 74 = .ok (.aload 4, 2) := by decide +kernel
theorem d_TR_firstFrom_76 : decode b_TR_firstFrom 76 = .ok (.areturn, 1) := by decide +kernel
theorem d_VE_init_0 : decode b_VE_init 0 = .ok (.aload_n 0, 1) := by decide +kernel
theorem d_VE_init_1 : decode b_VE_init 1 = .ok (.invokespecial 1, 3) := by decide +kernel
theorem d_VE_init_4 : decode b_VE_init 4 = .ok (.aload_n 0, 1) := by decide +kernel
theorem d_VE_init_5 : decode b_VE_init 5 = .ok (.aload_n 1, 1) := by decide +kernel
theorem d_VE_init_6 : decode b_VE_init 6 = .ok (.putfield 7, 3) := by decide +kernel
theorem d_VE_init_9 : decode b_VE_init 9 = .ok (.aload_n 0, 1) := by decide +kernel
theorem d_VE_init_10 : decode b_VE_init 10 = .ok (.iload_n 2, 1) := by decide +kernel
theorem d_VE_init_11 : decode b_VE_init 11 = .ok (.putfield 13, 3) := by decide +kernel
theorem d_VE_init_14 : decode b_VE_init 14 = .ok (.aload_n 0, 1) := by decide +kernel
theorem d_VE_init_15 : decode b_VE_init 15 = .ok (.iload_n 3, 1) := by decide +kernel
theorem d_VE_init_16 : decode b_VE_init 16 = .ok (.putfield 17, 3) := by decide +kernel
theorem d_VE_init_19 : decode b_VE_init 19 = .ok (.aload_n 0, 1) := by decide +kernel
theorem d_VE_init_20 : decode b_VE_init 20 = .ok (.iload 4, 2) := by decide +kernel
theorem d_VE_init_22 : decode b_VE_init 22 = .ok (.putfield 20, 3) := by decide +kernel
theorem d_VE_init_25 : decode b_VE_init 25 = .ok (.aload_n 0, 1) := by decide +kernel
theorem d_VE_init_26 : decode b_VE_init 26 = .ok (.iconst 1, 1) := by decide +kernel
theorem d_VE_init_27 : decode b_VE_init 27 = .ok (.putfield 23, 3) := by decide +kernel
theorem d_VE_init_30 : decode b_VE_init 30 = .ok (.aload_n 0, 1) := by decide +kernel
theorem d_VE_init_31 : decode b_VE_init 31 = .ok (.aconst_null, 1) := by decide +kernel
theorem d_VE_init_32 : decode b_VE_init 32 = .ok (.putfield 26, 3) := by decide +kernel
theorem d_VE_init_35 : decode b_VE_init 35 = .ok (.aload_n 0, 1) := by decide +kernel
theorem d_VE_init_36 : decode b_VE_init 36 = .ok (.aconst_null, 1) := by decide +kernel
theorem d_VE_init_37 : decode b_VE_init 37 = .ok (.putfield 30, 3) := by decide +kernel
theorem d_VE_init_40 : decode b_VE_init 40 = .ok (.return_, 1) := by decide +kernel
theorem d_TR_add_0 : decode b_TR_add 0 = .ok (.aload_n 0, 1) := by decide +kernel
theorem d_TR_add_1 : decode b_TR_add 1 = .ok (.aload_n 0, 1) := by decide +kernel
theorem d_TR_add_2 : decode b_TR_add 2 = .ok (.getfield 7, 3) := by decide +kernel
theorem d_TR_add_5 : decode b_TR_add 5 = .ok (.aload_n 1, 1) := by decide +kernel
theorem d_TR_add_6 : decode b_TR_add 6 = .ok (.iconst 0, 1) := by decide +kernel
theorem d_TR_add_7 : decode b_TR_add 7 = .ok (.invokestatic 29, 3) := by decide +kernel
theorem d_TR_add_10 : decode b_TR_add 10 = .ok (.putfield 7, 3) := by decide +kernel
theorem d_TR_add_13 : decode b_TR_add 13 = .ok (.aload_n 0, 1) := by decide +kernel
theorem d_TR_add_14 : decode b_TR_add 14 = .ok (.dup, 1) := by decide +kernel
theorem d_TR_add_15 : decode b_TR_add 15 = .ok (.getfield 13, 3) := by decide +kernel
theorem d_TR_add_18 : decode b_TR_add 18 = .ok (.iconst 1, 1) := by decide +kernel
theorem d_TR_add_19 : decode b_TR_add 19 = .ok (.iadd, 1) := by decide +kernel
theorem d_TR_add_20 : decode b_TR_add 20 = .ok (.putfield 13, 3) := by decide +kernel
theorem d_TR_add_23 : decode b_TR_add 23 = .ok (.return_, 1) := by decide +kernel
theorem d_TR_withAdded_0 : decode b_TR_withAdded 0 = .ok (.aload_n 0, 1) := by decide +kernel
theorem d_TR_withAdded_1 : decode b_TR_withAdded 1 = .ok (.ifnonnull 5, 3) := by decide +kernel
theorem d_TR_withAdded_4 : decode b_TR_withAdded 4 = .ok (.aload_n 1, 1) := by decide +kernel
theorem d_TR_withAdded_5 : decode b_TR_withAdded 5 = .ok (.areturn, 1) := by decide +kernel
theorem d_TR_withAdded_6 : decode b_TR_withAdded 6 = .ok (.iload_n 2, 1) := by decide +kernel
theorem d_TR_withAdded_7 : decode b_TR_withAdded 7 = .ok (.bipush 40, 2) := by decide +kernel
theorem d_TR_withAdded_9 : decode b_TR_withAdded 9 = .ok (.if_icmp .lt 5, 3) := by decide +kernel
theorem d_TR_withAdded_12 : decode b_TR_withAdded 12 = .ok (.aload_n 0, 1) := by decide +kernel
theorem d_TR_withAdded_13 : decode b_TR_withAdded 13 = .ok (.areturn, 1) := by decide +kernel
theorem d_TR_withAdded_14 : decode b_TR_withAdded 14 = .ok (.aload_n 0, 1) := by decide +kernel
theorem d_TR_withAdded_15 : decode b_TR_withAdded 15 = .ok (.aload_n 1, 1) := by decide +kernel
theorem d_TR_withAdded_16 : decode b_TR_withAdded 16 = .ok (.getfield 37, 3) := by decide +kernel
theorem d_TR_withAdded_19 : decode b_TR_withAdded 19 = .ok (.aload_n 1, 1) := by decide +kernel
theorem d_TR_withAdded_20 : decode b_TR_withAdded 20 = .ok (.getfield 41, 3) := by decide +kernel
theorem d_TR_withAdded_23 : decode b_TR_withAdded 23 = .ok (.invokevirtual 17, 3) := by decide +kernel
theorem d_TR_withAdded_26 : decode b_TR_withAdded 26 = .ok (.ifCond .ge 21, 3) := by decide +kernel
theorem d_TR_withAdded_29 : decode b_TR_withAdded 29 = .ok (.aload_n 0, 1) := by decide +kernel
theorem d_TR_withAdded_30 : decode b_TR_withAdded 30 = .ok (.aload_n 0, 1) := by decide +kernel
theorem d_TR_withAdded_31 : decode b_TR_withAdded 31 = .ok (.getfield 23, 3) := by decide +kernel
theorem d_TR_withAdded_34 : decode b_TR_withAdded 34 = .ok (.aload_n 1, 1) := by decide +kernel
theorem d_TR_withAdded_35 : decode b_TR_withAdded 35 = .ok (.iload_n 2, 1) := by decide +kernel
theorem d_TR_withAdded_36 : decode b_TR_withAdded 36 = .ok (.iconst 1, 1) := by decide +kernel
theorem d_TR_withAdded_37 : decode b_TR_withAdded 37 = .ok (.iadd, 1) := by decide +kernel
theorem d_TR_withAdded_38 : decode b_TR_withAdded 38 = .ok (.invokestatic 29, 3) := by decide +kernel
theorem d_TR_withAdded_41 : decode b_TR_withAdded 41 = .ok (.putfield 23, 3) := by decide +kernel
theorem d_TR_withAdded_44 : decode b_TR_withAdded 44 = .ok (.goto 18, 3) := by decide +kernel
theorem d_TR_withAdded_47 : decode b_TR_withAdded 47 = .ok (.aload_n 0, 1) := by decide +kernel
theorem d_TR_withAdded_48 : decode b_TR_withAdded 48 = .ok (.aload_n 0, 1) := by decide +kernel
theorem d_TR_withAdded_49 : decode b_TR_withAdded 49 = .ok (.getfield 26, 3) := by decide +kernel
theorem d_TR_withAdded_52 : decode b_TR_withAdded 52 = .ok (.aload_n 1, 1) := by decide +kernel
theorem d_TR_withAdded_53 : decode b_TR_withAdded 53 = .ok (.iload_n 2, 1) := by decide +kernel
theorem d_TR_withAdded_54 : decode b_TR_withAdded 54 = .ok (.iconst 1, 1) := by decide +kernel
theorem d_TR_withAdded_55 : decode b_TR_withAdded 55 = .ok (.iadd, 1) := by decide +kernel
theorem d_TR_withAdded_56 : decode b_TR_withAdded 56 = .ok (.invokestatic 29, 3) := by decide +kernel
theorem d_TR_withAdded_59 : decode b_TR_withAdded 59 = .ok (.putfield 26, 3) := by decide +kernel
theorem d_TR_withAdded_62 : decode b_TR_withAdded 62 = .ok (.aload_n 0, 1) := by decide +kernel
theorem d_TR_withAdded_63 : decode b_TR_withAdded 63 = .ok (.invokestatic 44, 3) := by decide +kernel
theorem d_TR_withAdded_66 : decode b_TR_withAdded 66 = .ok (.areturn, 1) := by decide +kernel
theorem d_TR_balanced_0 : decode b_TR_balanced 0 = .ok (.aload_n 0, 1) := by decide +kernel
theorem d_TR_balanced_1 : decode b_TR_balanced 1 = .ok (.aload_n 0, 1) := by decide +kernel
theorem d_TR_balanced_2 : decode b_TR_balanced 2 = .ok (.invokestatic 48, 3) := by decide +kernel
theorem d_TR_balanced_5 : decode b_TR_balanced 5 = .ok (.putfield 52, 3) := by decide +kernel
theorem d_TR_balanced_8 : decode b_TR_balanced 8 = .ok (.aload_n 0, 1) := by decide +kernel
theorem d_TR_balanced_9 : decode b_TR_balanced 9 = .ok (.invokestatic 55, 3) := by decide +kernel
theorem d_TR_balanced_12 : decode b_TR_balanced 12 = .ok (.istore_n 1, 1) := by decide +kernel
theorem d_TR_balanced_13 : decode b_TR_balanced 13 = .ok (.iload_n 1, 1) := by decide +kernel
theorem d_TR_balanced_14 : decode b_TR_balanced 14 = .ok (.iconst 1, 1) := by decide +kernel
theorem d_TR_balanced_15 : decode b_TR_balanced 15 = .ok (.if_icmp .le 29, 3) := by decide +kernel
theorem d_TR_balanced_18 : decode b_TR_balanced 18 = .ok (.aload_n 0, 1) := by decide +kernel
theorem d_TR_balanced_19 : decode b_TR_balanced 19 = .ok (.getfield 23, 3) := by decide +kernel
theorem d_TR_balanced_22 : decode b_TR_balanced 22 = .ok (.invokestatic 55, 3) := by decide +kernel
theorem d_TR_balanced_25 : decode b_TR_balanced 25 = .ok (.ifCond .ge 14, 3) := by decide +kernel
theorem d_TR_balanced_28 : decode b_TR_balanced 28 = .ok (.aload_n 0, 1) := by decide +kernel
theorem d_TR_balanced_29 : decode b_TR_balanced 29 = .ok (.aload_n 0, 1) := by decide +kernel
theorem d_TR_balanced_30 : decode b_TR_balanced 30 = .ok (.getfield 23, 3) := by decide +kernel
theorem d_TR_balanced_33 : decode b_TR_balanced 33 = .ok (.invokestatic 58, 3) := by decide +kernel
theorem d_TR_balanced_36 : decode b_TR_balanced 36 = .ok (.putfield 23, 3) := by decide +kernel
theorem d_TR_balanced_39 : decode b_TR_balanced 39 = .ok (.aload_n 0, 1) := by decide +kernel
theorem d_TR_balanced_40 : decode b_TR_balanced 40 = .ok (.invokestatic 61, 3) := by decide +kernel
theorem d_TR_balanced_43 : decode b_TR_balanced 43 = .ok (.areturn, 1) := by decide +kernel
theorem d_TR_balanced_44 : decode b_TR_balanced 44 = .ok (.iload_n 1, 1) := by decide +kernel
theorem d_TR_balanced_45 : decode b_TR_balanced 45 = .ok (.iconst (-1), 1) := by decide +kernel
theorem d_TR_balanced_46 : decode b_TR_balanced 46 = .ok (.if_icmp .ge 29, 3) := by decide +kernel
theorem d_TR_balanced_49 : decode b_TR_balanced 49 = .ok (.aload_n 0, 1) := by decide +kernel
theorem d_TR_balanced_50 : decode b_TR_balanced 50 = .ok (.getfield 26, 3) := by decide +kernel
theorem d_TR_balanced_53 : decode b_TR_balanced 53 = .ok (.invokestatic 55, 3) := by decide +kernel
theorem d_TR_balanced_56 : decode b_TR_balanced 56 = .ok (.ifCond .le 14, 3) := by decide +kernel
theorem d_TR_balanced_59 : decode b_TR_balanced 59 = .ok (.aload_n 0, 1) := by decide +kernel
theorem d_TR_balanced_60 : decode b_TR_balanced 60 = .ok (.aload_n 0, 1) := by decide +kernel
theorem d_TR_balanced_61 : decode b_TR_balanced 61 = .ok (.getfield 26, 3) := by decide +kernel
theorem d_TR_balanced_64 : decode b_TR_balanced 64 = .ok (.invokestatic 61, 3) := by decide +kernel
theorem d_TR_balanced_67 : decode b_TR_balanced 67 = .ok (.putfield 26, 3) := by decide +kernel
theorem d_TR_balanced_70 : decode b_TR_balanced 70 = .ok (.aload_n 0, 1) := by decide +kernel
theorem d_TR_balanced_71 : decode b_TR_balanced 71 = .ok (.invokestatic 58, 3) := by decide +kernel
theorem d_TR_balanced_74 : decode b_TR_balanced 74 = .ok (.areturn, 1) := by decide +kernel
theorem d_TR_balanced_75 : decode b_TR_balanced 75 = .ok (.aload_n 0, 1) := by decide +kernel
theorem d_TR_balanced_76 : decode b_TR_balanced 76 = .ok (.areturn, 1) := by decide +kernel
theorem d_TR_turnedLeft_0 : decode b_TR_turnedLeft 0 = .ok (.aload_n 0, 1) := by decide +kernel
theorem d_TR_turnedLeft_1 : decode b_TR_turnedLeft 1 = .ok (.ifnull 10, 3) := by decide +kernel
theorem d_TR_turnedLeft_4 : decode b_TR_turnedLeft 4 = .ok (.aload_n 0, 1) := by decide +kernel
theorem d_TR_turnedLeft_5 : decode b_TR_turnedLeft 5 = .ok (.getfield 26, 3) := by decide +kernel
theorem d_TR_turnedLeft_8 : decode b_TR_turnedLeft 8 = .ok (.ifnonnull 5, 3) := by decide +kernel
theorem d_TR_turnedLeft_11 : decode b_TR_turnedLeft 11 = .ok (.aload_n 0, 1) := by decide +kernel
theorem d_TR_turnedLeft_12 : decode b_TR_turnedLeft 12 = .ok (.areturn, 1) := by decide +kernel
theorem d_TR_turnedLeft_13 : decode b_TR_turnedLeft 13 = .ok (.aload_n 0, 1) := by decide +kernel
theorem d_TR_turnedLeft_14 : decode b_TR_turnedLeft 14 = .ok (.getfield 26, 3) := by decide +kernel
theorem d_TR_turnedLeft_17 : decode b_TR_turnedLeft 17 = .ok (.astore_n 1, 1) := by decide +kernel
theorem d_TR_turnedLeft_18 : decode b_TR_turnedLeft 18 = .ok (.aload_n 0, 1) := by decide +kernel
theorem d_TR_turnedLeft_19 : decode b_TR_turnedLeft 19 = .ok (.aload_n 1, 1) := by decide +kernel
theorem d_TR_turnedLeft_20 : decode b_TR_turnedLeft 20 = .ok (.getfield 23, 3) := by decide +kernel
theorem d_TR_turnedLeft_23 : decode b_TR_turnedLeft 23 = .ok (.putfield 26, 3) := by decide +kernel
theorem d_TR_turnedLeft_26 : decode b_TR_turnedLeft 26 = .ok (.aload_n 1, 1) := by decide +kernel
theorem d_TR_turnedLeft_27 : decode b_TR_turnedLeft 27 = .ok (.aload_n 0, 1) := by decide +kernel
theorem d_TR_turnedLeft_28 : decode b_TR_turnedLeft 28 = .ok (.putfield 23, 3) := by decide +kernel
theorem d_TR_turnedLeft_31 : decode b_TR_turnedLeft 31 = .ok (.aload_n 0, 1) := by decide +kernel
theorem d_TR_turnedLeft_32 : decode b_TR_turnedLeft 32 = .ok (.aload_n 0, 1) := by decide +kernel
theorem d_TR_turnedLeft_33 : decode b_TR_turnedLeft 33 = .ok (.invokestatic 48, 3) := by decide +kernel
theorem d_TR_turnedLeft_36 : decode b_TR_turnedLeft 36 = .ok (.putfield 52, 3) := by decide +kernel
theorem d_TR_turnedLeft_39 : decode b_TR_turnedLeft 39 = .ok (.aload_n 1, 1) := by decide +kernel
theorem d_TR_turnedLeft_40 : decode b_TR_turnedLeft 40 = .ok (.aload_n 1, 1) := by decide +kernel
theorem d_TR_turnedLeft_41 : decode b_TR_turnedLeft 41 = .ok (.invokestatic 48, 3) := by decide +kernel
theorem d_TR_turnedLeft_44 : decode b_TR_turnedLeft 44 = .ok (.putfield 52, 3) := by decide +kernel
theorem d_TR_turnedLeft_47 : decode b_TR_turnedLeft 47 = .ok (.aload_n 1, 1) := by decide +kernel
theorem d_TR_turnedLeft_48 : decode b_TR_turnedLeft 48 = .ok (.areturn, 1) := by decide +kernel
theorem d_TR_turnedRight_0 : decode b_TR_turnedRight 0 = .ok (.aload_n 0, 1) := by decide +kernel
theorem d_TR_turnedRight_1 : decode b_TR_turnedRight 1 = .ok (.ifnull 10, 3) := by decide +kernel
theorem d_TR_turnedRight_4 : decode b_TR_turnedRight 4 = .ok (.aload_n 0, 1) := by decide +kernel
theorem d_TR_turnedRight_5 : decode b_TR_turnedRight 5 = .ok (.getfield 23, 3) := by decide +kernel
theorem d_TR_turnedRight_8 : decode b_TR_turnedRight 8 = .ok (.ifnonnull 5, 3) := by decide +kernel
theorem d_TR_turnedRight_11 : decode b_TR_turnedRight 11 = .ok (.aload_n 0, 1) := by decide +kernel
theorem d_TR_turnedRight_12 : decode b_TR_turnedRight 12 = .ok (.areturn, 1) := by decide +kernel
theorem d_TR_turnedRight_13 : decode b_TR_turnedRight 13 = .ok (.aload_n 0, 1) := by decide +kernel
theorem d_TR_turnedRight_14 : decode b_TR_turnedRight 14 = .ok (.getfield 23, 3) := by decide +kernel
theorem d_TR_turnedRight_17 : decode b_TR_turnedRight 17 = .ok (.astore_n 1, 1) := by decide +kernel
theorem d_TR_turnedRight_18 : decode b_TR_turnedRight 18 = .ok (.aload_n 0, 1) := by decide +kernel
theorem d_TR_turnedRight_19 : decode b_TR_turnedRight 19 = .ok (.aload_n 1, 1) := by decide +kernel
theorem d_TR_turnedRight_20 : decode b_TR_turnedRight 20 = .ok (.getfield 26, 3) := by decide +kernel
theorem d_TR_turnedRight_23 : decode b_TR_turnedRight 23 = .ok (.putfield 23, 3) := by decide +kernel
theorem d_TR_turnedRight_26 : decode b_TR_turnedRight 26 = .ok (.aload_n 1, 1) := by decide +kernel
theorem d_TR_turnedRight_27 : decode b_TR_turnedRight 27 = .ok (.aload_n 0, 1) := by decide +kernel
theorem d_TR_turnedRight_28 : decode b_TR_turnedRight 28 = .ok (.putfield 26, 3) := by decide +kernel
theorem d_TR_turnedRight_31 : decode b_TR_turnedRight 31 = .ok (.aload_n 0, 1) := by decide +kernel
theorem d_TR_turnedRight_32 : decode b_TR_turnedRight 32 = .ok (.aload_n 0, 1) := by decide +kernel
theorem d_TR_turnedRight_33 : decode b_TR_turnedRight 33 = .ok (.invokestatic 48, 3) := by decide +kernel
theorem d_TR_turnedRight_36 : decode b_TR_turnedRight 36 = .ok (.putfield 52, 3) := by decide +kernel
theorem d_TR_turnedRight_39 : decode b_TR_turnedRight 39 = .ok (.aload_n 1, 1) := by decide +kernel
theorem d_TR_turnedRight_40 : decode b_TR_turnedRight 40 = .ok (.aload_n 1, 1) := by decide +kernel
theorem d_TR_turnedRight_41 : decode b_TR_turnedRight 41 = .ok (.invokestatic 48, 3) := by decide +kernel
theorem d_TR_turnedRight_44 : decode b_TR_turnedRight 44 = .ok (.putfield 52, 3) := by decide +kernel
theorem d_TR_turnedRight_47 : decode b_TR_turnedRight 47 = .ok (.aload_n 1, 1) := by decide +kernel
theorem d_TR_turnedRight_48 : decode b_TR_turnedRight 48 = .ok (.areturn, 1) := by decide +kernel
theorem d_LA_find_0 : decode b_LA_find 0 = .ok (.aload_n 2, 1) := by decide +kernel
theorem d_LA_find_1 : decode b_LA_find 1 = .ok (.iconst 0, 1) := by decide +kernel
theorem d_LA_find_2 : decode b_LA_find 2 = .ok (.aload_n 0, 1) := by decide +kernel
theorem d_LA_find_3 : decode b_LA_find 3 = .ok (.iload_n 1, 1) := by decide +kernel
theorem d_LA_find_4 : decode b_LA_find 4 = .ok (.invokevirtual 27, 3) := by decide +kernel
theorem d_LA_find_7 : decode b_LA_find 7 = .ok (.i2l, 1) := by decide +kernel
theorem d_LA_find_8 : decode b_LA_find 8 = .ok (.lastore, 1) := by decide +kernel
theorem d_LA_find_9 : decode b_LA_find 9 = .ok (.goto 9, 3) := by decide +kernel
theorem d_LA_find_12 : decode b_LA_find 12 = .ok (.astore_n 3, 1) := by decide +kernel
theorem d_LA_find_13 : decode b_LA_find 13 = .ok (.iconst 1, 1) := by decide +kernel
theorem d_LA_find_14 : decode b_LA_find 14 = .ok (.ireturn, 1) := by decide +kernel
theorem d_LA_find_15 : decode b_LA_find 15 = .ok (.astore_n 3, 1) := by decide +kernel
theorem d_LA_find_16 : decode b_LA_find 16 = .ok (.iconst 2, 1) := by decide +kernel
theorem d_LA_find_17 : decode b_LA_find 17 = .ok (.ireturn, 1) := by decide +kernel
theorem d_LA_find_18 : decode b_LA_find 18 = .ok (.iconst 0, 1) := by decide +kernel
theorem d_LA_find_19 : decode b_LA_find 19 = .ok (.ireturn, 1) := by decide +kernel
theorem d_MT_find_0 : decode b_MT_find 0 = .ok (.aload_n 0, 1) := by decide +kernel
theorem d_MT_find_1 : decode b_MT_find 1 = .ok (.invokevirtual 38, 3) := by decide +kernel
theorem d_MT_find_4 : decode b_MT_find 4 = .ok (.ifCond .ne 11, 3) := by decide +kernel
theorem d_MT_find_7 : decode b_MT_find 7 = .ok (.new 35, 3) := by decide +kernel
theorem d_MT_find_10 : decode b_MT_find 10 = .ok (.dup, 1) := by decide +kernel
theorem d_MT_find_11 : decode b_MT_find 11 = .ok (.invokespecial 37, 3) := by decide +kernel
theorem d_MT_find_14 : decode b_MT_find 14 = .ok (.athrow, 1) := by decide +kernel
theorem d_MT_find_15 : decode b_MT_find 15 = .ok (.aload_n 0, 1) := by decide +kernel
theorem d_MT_find_16 : decode b_MT_find 16 = .ok (.invokevirtual 42, 3) := by decide +kernel
theorem d_MT_find_19 : decode b_MT_find 19 = .ok (.astore_n 2, 1) := by decide +kernel
theorem d_MT_find_20 : decode b_MT_find 20 = .ok (.aload_n 0, 1) := by decide +kernel
theorem d_MT_find_21 : decode b_MT_find 21 = .ok (.getfield 20, 3) := by decide +kernel
theorem d_MT_find_24 : decode b_MT_find 24 = .ok (.aload_n 2, 1) := by decide +kernel
theorem d_MT_find_25 : decode b_MT_find 25 = .ok (.iload_n 1, 1) := by decide +kernel
theorem d_MT_find_26 : decode b_MT_find 26 = .ok (.iconst 0, 1) := by decide +kernel
theorem d_MT_find_27 : decode b_MT_find 27 = .ok (.invokevirtual 46, 3) := by decide +kernel
theorem d_MT_find_30 : decode b_MT_find 30 = .ok (.astore_n 3, 1) := by decide +kernel
theorem d_MT_find_31 : decode b_MT_find 31 = .ok (.aload_n 3, 1) := by decide +kernel
theorem d_MT_find_32 : decode b_MT_find 32 = .ok (.ifnull 18, 3) := by decide +kernel
theorem d_MT_find_35 : decode b_MT_find 35 = .ok (.aload_n 2, 1) := by decide +kernel
theorem d_MT_find_36 : decode b_MT_find 36 = .ok (.aload_n 3, 1) := by decide +kernel
theorem d_MT_find_37 : decode b_MT_find 37 = .ok (.getfield 75, 3) := by decide +kernel
theorem d_MT_find_40 : decode b_MT_find 40 = .ok (.invokestatic 78, 3) := by decide +kernel
theorem d_MT_find_43 : decode b_MT_find 43 = .ok (.ifCond .ne 7, 3) := by decide +kernel
theorem d_MT_find_46 : decode b_MT_find 46 = .ok (.iconst 1, 1) := by decide +kernel
theorem d_MT_find_47 : decode b_MT_find 47 = .ok (.goto 4, 3) := by decide +kernel
theorem d_MT_find_50 : decode b_MT_find 50 = .ok (.iconst 0, 1) := by decide +kernel
theorem d_MT_find_51 : decode b_MT_find 51 = .ok (.istore 4, 2) := by decide +kernel
theorem d_MT_find_53 : decode b_MT_find 53 = .ok (.aload_n 0, 1) := by decide +kernel
theorem d_MT_find_54 : decode b_MT_find 54 = .ok (.iload 4, 2) := by decide +kernel
theorem d_MT_find_56 : decode b_MT_find 56 = .ok (.ifCond .eq 7, 3) := by decide +kernel
theorem d_MT_find_59 : decode b_MT_find 59 = .ok (.aload_n 3, 1) := by decide +kernel
theorem d_MT_find_60 : decode b_MT_find 60 = .ok (.goto 4, 3) := by decide +kernel
theorem d_MT_find_63 : decode b_MT_find 63 = .ok (.aconst_null, 1) := by decide +kernel
theorem d_MT_find_64 : decode b_MT_find 64 = .ok (.invokevirtual 82, 3) := by decide +kernel
theorem d_MT_find_67 : decode b_MT_find 67 = .ok (.ireturn, 1) := by decide +kernel
theorem d_MT_goTo_0 : decode b_MT_goTo 0 = .ok (.aload_n 0, 1) := by decide +kernel
theorem d_MT_goTo_1 : decode b_MT_goTo 1 = .ok (.aload_n 1, 1) := by decide +kernel
theorem d_MT_goTo_2 : decode b_MT_goTo 2 = .ok (.putfield 24, 3) := by decide +kernel
theorem d_MT_goTo_5 : decode b_MT_goTo 5 = .ok (.aload_n 1, 1) := by decide +kernel
theorem d_MT_goTo_6 : decode b_MT_goTo 6 = .ok (.ifnonnull 11, 3) := by decide +kernel
theorem d_MT_goTo_9 : decode b_MT_goTo 9 = .ok (.new 92, 3) := by decide +kernel
theorem d_MT_goTo_12 : decode b_MT_goTo 12 = .ok (.dup, 1) := by decide +kernel
theorem d_MT_goTo_13 : decode b_MT_goTo 13 = .ok (.invokespecial 94, 3) := by decide +kernel
theorem d_MT_goTo_16 : decode b_MT_goTo 16 = .ok (.athrow, 1) := by decide +kernel
theorem d_MT_goTo_17 : decode b_MT_goTo 17 = .ok (.aload_n 1, 1) := by decide +kernel
theorem d_MT_goTo_18 : decode b_MT_goTo 18 = .ok (.getfield 56, 3) := by decide +kernel
theorem d_MT_goTo_21 : decode b_MT_goTo 21 = .ok (.ireturn, 1) := by decide +kernel
theorem d_LA_seek_0 : decode b_LA_seek 0 = .ok (.aload_n 3, 1) := by decide +kernel
theorem d_LA_seek_1 : decode b_LA_seek 1 = .ok (.iconst 0, 1) := by decide +kernel
theorem d_LA_seek_2 : decode b_LA_seek 2 = .ok (.aload_n 0, 1) := by decide +kernel
theorem d_LA_seek_3 : decode b_LA_seek 3 = .ok (.iload_n 1, 1) := by decide +kernel
theorem d_LA_seek_4 : decode b_LA_seek 4 = .ok (.iload_n 2, 1) := by decide +kernel
theorem d_LA_seek_5 : decode b_LA_seek 5 = .ok (.invokevirtual 32, 3) := by decide +kernel
theorem d_LA_seek_8 : decode b_LA_seek 8 = .ok (.i2l, 1) := by decide +kernel
theorem d_LA_seek_9 : decode b_LA_seek 9 = .ok (.lastore, 1) := by decide +kernel
theorem d_LA_seek_10 : decode b_LA_seek 10 = .ok (.goto 11, 3) := by decide +kernel
theorem d_LA_seek_13 : decode b_LA_seek 13 = .ok (.astore 4, 2) := by decide +kernel
theorem d_LA_seek_15 : decode b_LA_seek 15 = .ok (.iconst 1, 1) := by decide +kernel
theorem d_LA_seek_16 : decode b_LA_seek 16 = .ok (.ireturn, 1) := by decide +kernel
theorem d_LA_seek_17 : decode b_LA_seek 17 = .ok (.astore 4, 2) := by decide +kernel
theorem d_LA_seek_19 : decode b_LA_seek 19 = .ok (.iconst 2, 1) := by decide +kernel
theorem d_LA_seek_20 : decode b_LA_seek 20 = .ok (.ireturn, 1) := by decide +kernel
theorem d_LA_seek_21 : decode b_LA_seek 21 = .ok (.iconst 0, 1) := by decide +kernel
theorem d_LA_seek_22 : decode b_LA_seek 22 = .ok (.ireturn, 1) := by decide +kernel
theorem d_MT_seek_0 : decode b_MT_seek 0 = .ok (.aload_n 0, 1) := by decide +kernel
theorem d_MT_seek_1 : decode b_MT_seek 1 = .ok (.getfield 13, 3) := by decide +kernel
theorem d_MT_seek_4 : decode b_MT_seek 4 = .ok (.bipush 40, 2) := by decide +kernel
theorem d_MT_seek_6 : decode b_MT_seek 6 = .ok (.if_icmp .le 11, 3) := by decide +kernel
theorem d_MT_seek_9 : decode b_MT_seek 9 = .ok (.new 35, 3) := by decide +kernel
theorem d_MT_seek_12 : decode b_MT_seek 12 = .ok (.dup, 1) := by decide +kernel
theorem d_MT_seek_13 : decode b_MT_seek 13 = .ok (.invokespecial 37, 3) := by decide +kernel
theorem d_MT_seek_16 : decode b_MT_seek 16 = .ok (.athrow, 1) := by decide +kernel
theorem d_MT_seek_17 : decode b_MT_seek 17 = .ok (.aload_n 0, 1) := by decide +kernel
theorem d_MT_seek_18 : decode b_MT_seek 18 = .ok (.aload_n 0, 1) := by decide +kernel
theorem d_MT_seek_19 : decode b_MT_seek 19 = .ok (.getfield 20, 3) := by decide +kernel
theorem d_MT_seek_22 : decode b_MT_seek 22 = .ok (.aload_n 0, 1) := by decide +kernel
theorem d_MT_seek_23 : decode b_MT_seek 23 = .ok (.invokevirtual 42, 3) := by decide +kernel
theorem d_MT_seek_26 : decode b_MT_seek 26 = .ok (.iload_n 1, 1) := by decide +kernel
theorem d_MT_seek_27 : decode b_MT_seek 27 = .ok (.iload_n 2, 1) := by decide +kernel
theorem d_MT_seek_28 : decode b_MT_seek 28 = .ok (.invokevirtual 46, 3) := by decide +kernel
theorem d_MT_seek_31 : decode b_MT_seek 31 = .ok (.invokevirtual 82, 3) := by decide +kernel
theorem d_MT_seek_34 : decode b_MT_seek 34 = .ok (.ireturn, 1) := by decide +kernel
theorem d_LA_next_0 : decode b_LA_next 0 = .ok (.aload_n 1, 1) := by decide +kernel
theorem d_LA_next_1 : decode b_LA_next 1 = .ok (.iconst 0, 1) := by decide +kernel
theorem d_LA_next_2 : decode b_LA_next 2 = .ok (.aload_n 0, 1) := by decide +kernel
theorem d_LA_next_3 : decode b_LA_next 3 = .ok (.invokevirtual 36, 3) := by decide +kernel
theorem d_LA_next_6 : decode b_LA_next 6 = .ok (.i2l, 1) := by decide +kernel
theorem d_LA_next_7 : decode b_LA_next 7 = .ok (.lastore, 1) := by decide +kernel
theorem d_LA_next_8 : decode b_LA_next 8 = .ok (.goto 6, 3) := by decide +kernel
theorem d_LA_next_11 : decode b_LA_next 11 = .ok (.astore_n 2, 1) := by decide +kernel
theorem d_LA_next_12 : decode b_LA_next 12 = .ok (.iconst 1, 1) := by decide +kernel
theorem d_LA_next_13 : decode b_LA_next 13 = .ok (.ireturn, 1) := by decide +kernel
theorem d_LA_next_14 : decode b_LA_next 14 = .ok (.iconst 0, 1) := by decide +kernel
theorem d_LA_next_15 : decode b_LA_next 15 = .ok (.ireturn, 1) := by decide +kernel
theorem d_MT_next_0 : decode b_MT_next 0 = .ok (.aload_n 0, 1) := by decide +kernel
theorem d_MT_next_1 : decode b_MT_next 1 = .ok (.aload_n 0, 1) := by decide +kernel
theorem d_MT_next_2 : decode b_MT_next 2 = .ok (.getfield 24, 3) := by decide +kernel
theorem d_MT_next_5 : decode b_MT_next 5 = .ok (.ifnonnull 7, 3) := by decide +kernel
theorem d_MT_next_8 : decode b_MT_next 8 = .ok (.aconst_null, 1) := by decide +kernel
theorem d_MT_next_9 : decode b_MT_next 9 = .ok (.goto 25, 3) := by decide +kernel
theorem d_MT_next_12 : decode b_MT_next 12 = .ok (.aload_n 0, 1) := by decide +kernel
theorem d_MT_next_13 : decode b_MT_next 13 = .ok (.getfield 20, 3) := by decide +kernel
theorem d_MT_next_16 : decode b_MT_next 16 = .ok (.aload_n 0, 1) := by decide +kernel
theorem d_MT_next_17 : decode b_MT_next 17 = .ok (.getfield 24, 3) := by decide +kernel
theorem d_MT_next_20 : decode b_MT_next 20 = .ok (.getfield 75, 3) := by decide +kernel
theorem d_MT_next_23 : decode b_MT_next 23 = .ok (.aload_n 0, 1) := by decide +kernel
theorem d_MT_next_24 : decode b_MT_next 24 = .ok (.getfield 24, 3) := by decide +kernel
theorem d_MT_next_27 : decode b_MT_next 27 = .ok (.getfield 86, 3) := by decide +kernel
theorem d_MT_next_30 : decode b_MT_next 30 = .ok (.iconst 1, 1) := by decide +kernel
theorem d_MT_next_31 : decode b_MT_next 31 = .ok (.invokevirtual 46, 3) := by decide +kernel
theorem d_MT_next_34 : decode b_MT_next 34 = .ok (.invokevirtual 82, 3) := by decide +kernel
theorem d_MT_next_37 : decode b_MT_next 37 = .ok (.ireturn, 1) := by decide +kernel
theorem d_LA_first_0 : decode b_LA_first 0 = .ok (.aload_n 1, 1) := by decide +kernel
theorem d_LA_first_1 : decode b_LA_first 1 = .ok (.iconst 0, 1) := by decide +kernel
theorem d_LA_first_2 : decode b_LA_first 2 = .ok (.aload_n 0, 1) := by decide +kernel
theorem d_LA_first_3 : decode b_LA_first 3 = .ok (.invokevirtual 40, 3) := by decide +kernel
theorem d_LA_first_6 : decode b_LA_first 6 = .ok (.i2l, 1) := by decide +kernel
theorem d_LA_first_7 : decode b_LA_first 7 = .ok (.lastore, 1) := by decide +kernel
theorem d_LA_first_8 : decode b_LA_first 8 = .ok (.goto 6, 3) := by decide +kernel
theorem d_LA_first_11 : decode b_LA_first 11 = .ok (.astore_n 2, 1) := by decide +kernel
theorem d_LA_first_12 : decode b_LA_first 12 = .ok (.iconst 1, 1) := by decide +kernel
theorem d_LA_first_13 : decode b_LA_first 13 = .ok (.ireturn, 1) := by decide +kernel
theorem d_LA_first_14 : decode b_LA_first 14 = .ok (.iconst 0, 1) := by decide +kernel
theorem d_LA_first_15 : decode b_LA_first 15 = .ok (.ireturn, 1) := by decide +kernel
theorem d_MT_first_0 : decode b_MT_first 0 = .ok (.aload_n 0, 1) := by decide +kernel
theorem d_MT_first_1 : decode b_MT_first 1 = .ok (.aload_n 0, 1) := by decide +kernel
theorem d_MT_first_2 : decode b_MT_first 2 = .ok (.getfield 20, 3) := by decide +kernel
theorem d_MT_first_5 : decode b_MT_first 5 = .ok (.getstatic 89, 3) := by decide +kernel
theorem d_MT_first_8 : decode b_MT_first 8 = .ok (.iconst 0, 1) := by decide +kernel
theorem d_MT_first_9 : decode b_MT_first 9 = .ok (.iconst 0, 1) := by decide +kernel
theorem d_MT_first_10 : decode b_MT_first 10 = .ok (.invokevirtual 46, 3) := by decide +kernel
theorem d_MT_first_13 : decode b_MT_first 13 = .ok (.invokevirtual 82, 3) := by decide +kernel
theorem d_MT_first_16 : decode b_MT_first 16 = .ok (.ireturn, 1) := by decide +kernel
theorem d_LA_current_0 : decode b_LA_current 0 = .ok (.aload_n 2, 1) := by decide +kernel
theorem d_LA_current_1 : decode b_LA_current 1 = .ok (.iconst 0, 1) := by decide +kernel
theorem d_LA_current_2 : decode b_LA_current 2 = .ok (.aload_n 0, 1) := by decide +kernel
theorem d_LA_current_3 : decode b_LA_current 3 = .ok (.iload_n 1, 1) := by decide +kernel
theorem d_LA_current_4 : decode b_LA_current 4 = .ok (.invokevirtual 43, 3) := by decide +kernel
theorem d_LA_current_7 : decode b_LA_current 7 = .ok (.i2l, 1) := by decide +kernel
theorem d_LA_current_8 : decode b_LA_current 8 = .ok (.lastore, 1) := by decide +kernel
theorem d_LA_current_9 : decode b_LA_current 9 = .ok (.goto 9, 3) := by decide +kernel
theorem d_LA_current_12 : decode b_LA_current 12 = .ok (.astore_n 3, 1) := by decide +kernel
theorem d_LA_current_13 : decode b_LA_current 13 = .ok (.iconst 1, 1) := by decide +kernel
theorem d_LA_current_14 : decode b_LA_current 14 = .ok (.ireturn, 1) := by decide +kernel
theorem d_LA_current_15 : decode b_LA_current 15 = .ok (.astore_n 3, 1) := by decide +kernel
theorem d_LA_current_16 : decode b_LA_current 16 = .ok (.iconst 2, 1) := by decide +kernel
theorem d_LA_current_17 : decode b_LA_current 17 = .ok (.ireturn, 1) := by decide +kernel
theorem d_LA_current_18 : decode b_LA_current 18 = .ok (.iconst 0, 1) := by decide +kernel
theorem d_LA_current_19 : decode b_LA_current 19 = .ok (.ireturn, 1) := by decide +kernel
theorem d_MT_current_0 : decode b_MT_current 0 = .ok (.iload_n 1, 1) := by decide +kernel
theorem d_MT_current_1 : decode b_MT_current 1 = .ok (.ifCond .lt 8, 3) := by decide +kernel
theorem d_MT_current_4 : decode b_MT_current 4 = .ok (.iload_n 1, 1) := by decide +kernel
theorem d_MT_current_5 : decode b_MT_current 5 = .ok (.iconst 3, 1) := by decide +kernel
theorem d_MT_current_6 : decode b_MT_current 6 = .ok (.if_icmp .le 11, 3) := by decide +kernel
theorem d_MT_current_9 : decode b_MT_current 9 = .ok (.new 35, 3) := by decide +kernel
theorem d_MT_current_12 : decode b_MT_current 12 = .ok (.dup, 1) := by decide +kernel
theorem d_MT_current_13 : decode b_MT_current 13 = .ok (.invokespecial 37, 3) := by decide +kernel
theorem d_MT_current_16 : decode b_MT_current 16 = .ok (.athrow, 1) := by decide +kernel
theorem d_MT_current_17 : decode b_MT_current 17 = .ok (.aload_n 0, 1) := by decide +kernel
theorem d_MT_current_18 : decode b_MT_current 18 = .ok (.getfield 24, 3) := by decide +kernel
theorem d_MT_current_21 : decode b_MT_current 21 = .ok (.ifnonnull 11, 3) := by decide +kernel
theorem d_MT_current_24 : decode b_MT_current 24 = .ok (.new 92, 3) := by decide +kernel
theorem d_MT_current_27 : decode b_MT_current 27 = .ok (.dup, 1) := by decide +kernel
theorem d_MT_current_28 : decode b_MT_current 28 = .ok (.invokespecial 94, 3) := by decide +kernel
theorem d_MT_current_31 : decode b_MT_current 31 = .ok (.athrow, 1) := by decide +kernel
theorem d_MT_current_32 : decode b_MT_current 32 = .ok (.iload_n 1, 1) := by decide +kernel
theorem d_MT_current_33 : decode b_MT_current 33 = .ok (.tableswitch 51 0 2 #[27, 35, 43], 27) := by decide +kernel
theorem d_MT_current_60 : decode b_MT_current 60 = .ok (.aload_n 0, 1) := by decide +kernel
theorem d_MT_current_61 : decode b_MT_current 61 = .ok (.getfield 24, 3) := by decide +kernel
theorem d_MT_current_64 : decode b_MT_current 64 = .ok (.getfield 86, 3) := by decide +kernel
theorem d_MT_current_67 : decode b_MT_current 67 = .ok (.ireturn, 1) := by decide +kernel
theorem d_MT_current_68 : decode b_MT_current 68 = .ok (.aload_n 0, 1) := by decide +kernel
theorem d_MT_current_69 : decode b_MT_current 69 = .ok (.getfield 24, 3) := by decide +kernel
theorem d_MT_current_72 : decode b_MT_current 72 = .ok (.getfield 56, 3) := by decide +kernel
theorem d_MT_current_75 : decode b_MT_current 75 = .ok (.ireturn, 1) := by decide +kernel
theorem d_MT_current_76 : decode b_MT_current 76 = .ok (.aload_n 0, 1) := by decide +kernel
theorem d_MT_current_77 : decode b_MT_current 77 = .ok (.getfield 24, 3) := by decide +kernel
theorem d_MT_current_80 : decode b_MT_current 80 = .ok (.getfield 59, 3) := by decide +kernel
theorem d_MT_current_83 : decode b_MT_current 83 = .ok (.ireturn, 1) := by decide +kernel
theorem d_MT_current_84 : decode b_MT_current 84 = .ok (.aload_n 0, 1) := by decide +kernel
theorem d_MT_current_85 : decode b_MT_current 85 = .ok (.getfield 24, 3) := by decide +kernel
theorem d_MT_current_88 : decode b_MT_current 88 = .ok (.getfield 75, 3) := by decide +kernel
theorem d_MT_current_91 : decode b_MT_current 91 = .ok (.arraylength, 1) := by decide +kernel
theorem d_MT_current_92 : decode b_MT_current 92 = .ok (.ireturn, 1) := by decide +kernel
theorem d_LA_word_0 : decode b_LA_word 0 = .ok (.aload_n 2, 1) := by decide +kernel
theorem d_LA_word_1 : decode b_LA_word 1 = .ok (.iconst 0, 1) := by decide +kernel
theorem d_LA_word_2 : decode b_LA_word 2 = .ok (.aload_n 0, 1) := by decide +kernel
theorem d_LA_word_3 : decode b_LA_word 3 = .ok (.iload_n 1, 1) := by decide +kernel
theorem d_LA_word_4 : decode b_LA_word 4 = .ok (.invokevirtual 46, 3) := by decide +kernel
theorem d_LA_word_7 : decode b_LA_word 7 = .ok (.lastore, 1) := by decide +kernel
theorem d_LA_word_8 : decode b_LA_word 8 = .ok (.goto 9, 3) := by decide +kernel
theorem d_LA_word_11 : decode b_LA_word 11 = .ok (.astore_n 3, 1) := by decide +kernel
theorem d_LA_word_12 : decode b_LA_word 12 = .ok (.iconst 1, 1) := by decide +kernel
theorem d_LA_word_13 : decode b_LA_word 13 = .ok (.ireturn, 1) := by decide +kernel
theorem d_LA_word_14 : decode b_LA_word 14 = .ok (.astore_n 3, 1) := by decide +kernel
theorem d_LA_word_15 : decode b_LA_word 15 = .ok (.iconst 2, 1) := by decide +kernel
theorem d_LA_word_16 : decode b_LA_word 16 = .ok (.ireturn, 1) := by decide +kernel
theorem d_LA_word_17 : decode b_LA_word 17 = .ok (.iconst 0, 1) := by decide +kernel
theorem d_LA_word_18 : decode b_LA_word 18 = .ok (.ireturn, 1) := by decide +kernel
theorem d_MT_word_0 : decode b_MT_word 0 = .ok (.aload_n 0, 1) := by decide +kernel
theorem d_MT_word_1 : decode b_MT_word 1 = .ok (.getfield 24, 3) := by decide +kernel
theorem d_MT_word_4 : decode b_MT_word 4 = .ok (.ifnonnull 11, 3) := by decide +kernel
theorem d_MT_word_7 : decode b_MT_word 7 = .ok (.new 92, 3) := by decide +kernel
theorem d_MT_word_10 : decode b_MT_word 10 = .ok (.dup, 1) := by decide +kernel
theorem d_MT_word_11 : decode b_MT_word 11 = .ok (.invokespecial 94, 3) := by decide +kernel
theorem d_MT_word_14 : decode b_MT_word 14 = .ok (.athrow, 1) := by decide +kernel
theorem d_MT_word_15 : decode b_MT_word 15 = .ok (.aload_n 0, 1) := by decide +kernel
theorem d_MT_word_16 : decode b_MT_word 16 = .ok (.getfield 24, 3) := by decide +kernel
theorem d_MT_word_19 : decode b_MT_word 19 = .ok (.getfield 75, 3) := by decide +kernel
theorem d_MT_word_22 : decode b_MT_word 22 = .ok (.astore_n 2, 1) := by decide +kernel
theorem d_MT_word_23 : decode b_MT_word 23 = .ok (.iload_n 1, 1) := by decide +kernel
theorem d_MT_word_24 : decode b_MT_word 24 = .ok (.ifCond .lt 9, 3) := by decide +kernel
theorem d_MT_word_27 : decode b_MT_word 27 = .ok (.iload_n 1, 1) := by decide +kernel
theorem d_MT_word_28 : decode b_MT_word 28 = .ok (.aload_n 2, 1) := by decide +kernel
theorem d_MT_word_29 : decode b_MT_word 29 = .ok (.arraylength, 1) := by decide +kernel
theorem d_MT_word_30 : decode b_MT_word 30 = .ok (.if_icmp .lt 11, 3) := by decide +kernel
theorem d_MT_word_33 : decode b_MT_word 33 = .ok (.new 28, 3) := by decide +kernel
theorem d_MT_word_36 : decode b_MT_word 36 = .ok (.dup, 1) := by decide +kernel
theorem d_MT_word_37 : decode b_MT_word 37 = .ok (.invokespecial 30, 3) := by decide +kernel
theorem d_MT_word_40 : decode b_MT_word 40 = .ok (.athrow, 1) := by decide +kernel
theorem d_MT_word_41 : decode b_MT_word 41 = .ok (.lconst 0, 1) := by decide +kernel
theorem d_MT_word_42 : decode b_MT_word 42 = .ok (.lstore_n 3, 1) := by decide +kernel
theorem d_MT_word_43 : decode b_MT_word 43 = .ok (.iload_n 1, 1) := by decide +kernel
theorem d_MT_word_44 : decode b_MT_word 44 = .ok (.istore 5, 2) := by decide +kernel
theorem d_MT_word_46 : decode b_MT_word 46 = .ok (.iload 5, 2) := by decide +kernel
theorem d_MT_word_48 : decode b_MT_word 48 = .ok (.iload_n 1, 1) := by decide +kernel
theorem d_MT_word_49 : decode b_MT_word 49 = .ok (.bipush 8, 2) := by decide +kernel
theorem d_MT_word_51 : decode b_MT_word 51 = .ok (.iadd, 1) := by decide +kernel
theorem d_MT_word_52 : decode b_MT_word 52 = .ok (.if_icmp .ge 35, 3) := by decide +kernel
theorem d_MT_word_55 : decode b_MT_word 55 = .ok (.lload_n 3, 1) := by decide +kernel
theorem d_MT_word_56 : decode b_MT_word 56 = .ok (.bipush 8, 2) := by decide +kernel
theorem d_MT_word_58 : decode b_MT_word 58 = .ok (.lshl, 1) := by decide +kernel
theorem d_MT_word_59 : decode b_MT_word 59 = .ok (.iload 5, 2) := by decide +kernel
theorem d_MT_word_61 : decode b_MT_word 61 = .ok (.aload_n 2, 1) := by decide +kernel
theorem d_MT_word_62 : decode b_MT_word 62 = .ok (.arraylength, 1) := by decide +kernel
theorem d_MT_word_63 : decode b_MT_word 63 = .ok (.if_icmp .ge 14, 3) := by decide +kernel
theorem d_MT_word_66 : decode b_MT_word 66 = .ok (.aload_n 2, 1) := by decide +kernel
theorem d_MT_word_67 : decode b_MT_word 67 = .ok (.iload 5, 2) := by decide +kernel
theorem d_MT_word_69 : decode b_MT_word 69 = .ok (.baload, 1) := by decide +kernel
theorem d_MT_word_70 : decode b_MT_word 70 = .ok (.sipush 255, 3) := by decide +kernel
theorem d_MT_word_73 : decode b_MT_word 73 = .ok (.iand, 1) := by decide +kernel
theorem d_MT_word_74 : decode b_MT_word 74 = .ok (.goto 4, 3) := by decide +kernel
theorem d_MT_word_77 : decode b_MT_word 77 = .ok (.iconst 0, 1) := by decide +kernel
theorem d_MT_word_78 : decode b_MT_word 78 = .ok (.i2l, 1) := by decide +kernel
theorem d_MT_word_79 : decode b_MT_word 79 = .ok (.lor, 1) := by decide +kernel
theorem d_MT_word_80 : decode b_MT_word 80 = .ok (.lstore_n 3, 1) := by decide +kernel
theorem d_MT_word_81 : decode b_MT_word 81 = .ok (.iinc 5 1, 3) := by decide +kernel
theorem d_MT_word_84 : decode b_MT_word 84 = .ok (.goto (-38), 3) := by decide +kernel
theorem d_MT_word_87 : decode b_MT_word 87 = .ok (.lload_n 3, 1) := by decide +kernel
theorem d_MT_word_88 : decode b_MT_word 88 = .ok (.lreturn, 1) := by decide +kernel
theorem d_MO_init_0 : decode b_MO_init 0 = .ok (.aload_n 0, 1) := by decide +kernel
theorem d_MO_init_1 : decode b_MO_init 1 = .ok (.invokespecial 1, 3) := by decide +kernel
theorem d_MO_init_4 : decode b_MO_init 4 = .ok (.aload_n 0, 1) := by decide +kernel
theorem d_MO_init_5 : decode b_MO_init 5 = .ok (.bipush 60, 2) := by decide +kernel
theorem d_MO_init_7 : decode b_MO_init 7 = .ok (.newarray .byte, 2) := by decide +kernel
theorem d_MO_init_9 : decode b_MO_init 9 = .ok (.putfield 7, 3) := by decide +kernel
theorem d_MO_init_12 : decode b_MO_init 12 = .ok (.aload_n 0, 1) := by decide +kernel
theorem d_MO_init_13 : decode b_MO_init 13 = .ok (.sipush 6440, 3) := by decide +kernel
theorem d_MO_init_16 : decode b_MO_init 16 = .ok (.newarray .byte, 2) := by decide +kernel
theorem d_MO_init_18 : decode b_MO_init 18 = .ok (.putfield 13, 3) := by decide +kernel
theorem d_MO_init_21 : decode b_MO_init 21 = .ok (.aload_n 0, 1) := by decide +kernel
theorem d_MO_init_22 : decode b_MO_init 22 = .ok (.sipush 161, 3) := by decide +kernel
theorem d_MO_init_25 : decode b_MO_init 25 = .ok (.newarray .int, 2) := by decide +kernel
theorem d_MO_init_27 : decode b_MO_init 27 = .ok (.putfield 16, 3) := by decide +kernel
theorem d_MO_init_30 : decode b_MO_init 30 = .ok (.aload_n 0, 1) := by decide +kernel
theorem d_MO_init_31 : decode b_MO_init 31 = .ok (.sipush 161, 3) := by decide +kernel
theorem d_MO_init_34 : decode b_MO_init 34 = .ok (.newarray .int, 2) := by decide +kernel
theorem d_MO_init_36 : decode b_MO_init 36 = .ok (.putfield 20, 3) := by decide +kernel
theorem d_MO_init_39 : decode b_MO_init 39 = .ok (.aload_n 0, 1) := by decide +kernel
theorem d_MO_init_40 : decode b_MO_init 40 = .ok (.sipush 161, 3) := by decide +kernel
theorem d_MO_init_43 : decode b_MO_init 43 = .ok (.newarray .int, 2) := by decide +kernel
theorem d_MO_init_45 : decode b_MO_init 45 = .ok (.putfield 23, 3) := by decide +kernel
theorem d_MO_init_48 : decode b_MO_init 48 = .ok (.aload_n 0, 1) := by decide +kernel
theorem d_MO_init_49 : decode b_MO_init 49 = .ok (.sipush 161, 3) := by decide +kernel
theorem d_MO_init_52 : decode b_MO_init 52 = .ok (.newarray .int, 2) := by decide +kernel
theorem d_MO_init_54 : decode b_MO_init 54 = .ok (.putfield 26, 3) := by decide +kernel
theorem d_MO_init_57 : decode b_MO_init 57 = .ok (.aload_n 0, 1) := by decide +kernel
theorem d_MO_init_58 : decode b_MO_init 58 = .ok (.iconst (-1), 1) := by decide +kernel
theorem d_MO_init_59 : decode b_MO_init 59 = .ok (.putfield 29, 3) := by decide +kernel
theorem d_MO_init_62 : decode b_MO_init 62 = .ok (.return_, 1) := by decide +kernel
theorem d_MO_thrown_0 : decode b_MO_thrown 0 = .ok (.aload_n 0, 1) := by decide +kernel
theorem d_MO_thrown_1 : decode b_MO_thrown 1 = .ok (.getfield 33, 3) := by decide +kernel
theorem d_MO_thrown_4 : decode b_MO_thrown 4 = .ok (.ireturn, 1) := by decide +kernel
theorem d_MO_feed_0 : decode b_MO_feed 0 = .ok (.aload_n 0, 1) := by decide +kernel
theorem d_MO_feed_1 : decode b_MO_feed 1 = .ok (.iconst 0, 1) := by decide +kernel
theorem d_MO_feed_2 : decode b_MO_feed 2 = .ok (.putfield 33, 3) := by decide +kernel
theorem d_MO_feed_5 : decode b_MO_feed 5 = .ok (.aload_n 0, 1) := by decide +kernel
theorem d_MO_feed_6 : decode b_MO_feed 6 = .ok (.getfield 36, 3) := by decide +kernel
theorem d_MO_feed_9 : decode b_MO_feed 9 = .ok (.bipush 20, 2) := by decide +kernel
theorem d_MO_feed_11 : decode b_MO_feed 11 = .ok (.iadd, 1) := by decide +kernel
theorem d_MO_feed_12 : decode b_MO_feed 12 = .ok (.bipush 60, 2) := by decide +kernel
theorem d_MO_feed_14 : decode b_MO_feed 14 = .ok (.if_icmp .le 9, 3) := by decide +kernel
theorem d_MO_feed_17 : decode b_MO_feed 17 = .ok (.aload_n 0, 1) := by decide +kernel
theorem d_MO_feed_18 : decode b_MO_feed 18 = .ok (.iconst 1, 1) := by decide +kernel
theorem d_MO_feed_19 : decode b_MO_feed 19 = .ok (.invokevirtual 39, 3) := by decide +kernel
theorem d_MO_feed_22 : decode b_MO_feed 22 = .ok (.ireturn, 1) := by decide +kernel
theorem d_MO_feed_23 : decode b_MO_feed 23 = .ok (.iconst 0, 1) := by decide +kernel
theorem d_MO_feed_24 : decode b_MO_feed 24 = .ok (.istore 6, 2) := by decide +kernel
theorem d_MO_feed_26 : decode b_MO_feed 26 = .ok (.iload 6, 2) := by decide +kernel
theorem d_MO_feed_28 : decode b_MO_feed 28 = .ok (.bipush 20, 2) := by decide +kernel
theorem d_MO_feed_30 : decode b_MO_feed 30 = .ok (.if_icmp .ge 90, 3) := by decide +kernel
theorem d_MO_feed_33 : decode b_MO_feed 33 = .ok (.iload 6, 2) := by decide +kernel
theorem d_MO_feed_35 : decode b_MO_feed 35 = .ok (.iconst 4, 1) := by decide +kernel
theorem d_MO_feed_36 : decode b_MO_feed 36 = .ok (.if_icmp .ge 7, 3) := by decide +kernel
theorem d_MO_feed_39 : decode b_MO_feed 39 = .ok (.iload_n 1, 1) := by decide +kernel
theorem d_MO_feed_40 : decode b_MO_feed 40 = .ok (.goto 39, 3) := by decide +kernel
theorem d_MO_feed_43 : decode b_MO_feed 43 = .ok (.iload 6, 2) := by decide +kernel
theorem d_MO_feed_45 : decode b_MO_feed 45 = .ok (.bipush 8, 2) := by decide +kernel
theorem d_MO_feed_47 : decode b_MO_feed 47 = .ok (.if_icmp .ge 7, 3) := by decide +kernel
theorem d_MO_feed_50 : decode b_MO_feed 50 = .ok (.iload_n 2, 1) := by decide +kernel
theorem d_MO_feed_51 : decode b_MO_feed 51 = .ok (.goto 28, 3) := by decide +kernel
theorem d_MO_feed_54 : decode b_MO_feed 54 = .ok (.iload 6, 2) := by decide +kernel
theorem d_MO_feed_56 : decode b_MO_feed 56 = .ok (.bipush 12, 2) := by decide +kernel
theorem d_MO_feed_58 : decode b_MO_feed 58 = .ok (.if_icmp .ge 7, 3) := by decide +kernel
theorem d_MO_feed_61 : decode b_MO_feed 61 = .ok (.iload_n 3, 1) := by decide +kernel
theorem d_MO_feed_62 : decode b_MO_feed 62 = .ok (.goto 17, 3) := by decide +kernel
theorem d_MO_feed_65 : decode b_MO_feed 65 = .ok (.iload 6, 2) := by decide +kernel
theorem d_MO_feed_67 : decode b_MO_feed 67 = .ok (.bipush 16, 2) := by decide +kernel
theorem d_MO_feed_69 : decode b_MO_feed 69 = .ok (.if_icmp .ge 8, 3) := by decide +kernel
theorem d_MO_feed_72 : decode b_MO_feed 72 = .ok (.iload 4, 2) := by decide +kernel
theorem d_MO_feed_74 : decode b_MO_feed 74 = .ok (.goto 5, 3) := by decide +kernel
theorem d_MO_feed_77 : decode b_MO_feed 77 = .ok (.iload 5, 2) := by decide +kernel
theorem d_MO_feed_79 : decode b_MO_feed 79 = .ok (.istore 7, 2) := by decide +kernel
theorem d_MO_feed_81 : decode b_MO_feed 81 = .ok (.aload_n 0, 1) := by decide +kernel
theorem d_MO_feed_82 : decode b_MO_feed 82 = .ok (.getfield 7, 3) := by decide +kernel
theorem d_MO_feed_85 : decode b_MO_feed 85 = .ok (.aload_n 0, 1) := by decide +kernel
theorem d_MO_feed_86 : decode b_MO_feed 86 = .ok (.getfield 36, 3) := by decide +kernel
theorem d_MO_feed_89 : decode b_MO_feed 89 = .ok (.iload 7, 2) := by decide +kernel
theorem d_MO_feed_91 : decode b_MO_feed 91 = .ok (.bipush 24, 2) := by decide +kernel
theorem d_MO_feed_93 : decode b_MO_feed 93 = .ok (.bipush 8, 2) := by decide +kernel
theorem d_MO_feed_95 : decode b_MO_feed 95 = .ok (.iload 6, 2) := by decide +kernel
theorem d_MO_feed_97 : decode b_MO_feed 97 = .ok (.iconst 4, 1) := by decide +kernel
theorem d_MO_feed_98 : decode b_MO_feed 98 = .ok (.irem, 1) := by decide +kernel
theorem d_MO_feed_99 : decode b_MO_feed 99 = .ok (.imul, 1) := by decide +kernel
theorem d_MO_feed_100 : decode b_MO_feed 100 = .ok (.isub, 1) := by decide +kernel
theorem d_MO_feed_101 : decode b_MO_feed 101 = .ok (.ishr, 1) := by decide +kernel
theorem d_MO_feed_102 : decode b_MO_feed 102 = .ok (.i2b, 1) := by decide +kernel
theorem d_MO_feed_103 : decode b_MO_feed 103 = .ok (.bastore, 1) := by decide +kernel
theorem d_MO_feed_104 : decode b_MO_feed 104 = .ok (.aload_n 0, 1) := by decide +kernel
theorem d_MO_feed_105 : decode b_MO_feed 105 = .ok (.dup, 1) := by decide +kernel
theorem d_MO_feed_106 : decode b_MO_feed 106 = .ok (.getfield 36, 3) := by decide +kernel
theorem d_MO_feed_109 : decode b_MO_feed 109 = .ok (.iconst 1, 1) := by decide +kernel
theorem d_MO_feed_110 : decode b_MO_feed 110 = .ok (.iadd, 1) := by decide +kernel
theorem d_MO_feed_111 : decode b_MO_feed 111 = .ok (.putfield 36, 3) := by decide +kernel
theorem d_MO_feed_114 : decode b_MO_feed 114 = .ok (.iinc 6 1, 3) := by decide +kernel
theorem d_MO_feed_117 : decode b_MO_feed 117 = .ok (.goto (-91), 3) := by decide +kernel
theorem d_MO_feed_120 : decode b_MO_feed 120 = .ok (.aload_n 0, 1) := by decide +kernel
theorem d_MO_feed_121 : decode b_MO_feed 121 = .ok (.getfield 36, 3) := by decide +kernel
theorem d_MO_feed_124 : decode b_MO_feed 124 = .ok (.ireturn, 1) := by decide +kernel
theorem d_MO_fail_0 : decode b_MO_fail 0 = .ok (.aload_n 0, 1) := by decide +kernel
theorem d_MO_fail_1 : decode b_MO_fail 1 = .ok (.iload_n 1, 1) := by decide +kernel
theorem d_MO_fail_2 : decode b_MO_fail 2 = .ok (.putfield 33, 3) := by decide +kernel
theorem d_MO_fail_5 : decode b_MO_fail 5 = .ok (.iconst 0, 1) := by decide +kernel
theorem d_MO_fail_6 : decode b_MO_fail 6 = .ok (.ireturn, 1) := by decide +kernel
theorem d_MO_end_0 : decode b_MO_end 0 = .ok (.aload_n 0, 1) := by decide +kernel
theorem d_MO_end_1 : decode b_MO_end 1 = .ok (.iconst 0, 1) := by decide +kernel
theorem d_MO_end_2 : decode b_MO_end 2 = .ok (.putfield 33, 3) := by decide +kernel
theorem d_MO_end_5 : decode b_MO_end 5 = .ok (.iload_n 1, 1) := by decide +kernel
theorem d_MO_end_6 : decode b_MO_end 6 = .ok (.ifCond .lt 11, 3) := by decide +kernel
theorem d_MO_end_9 : decode b_MO_end 9 = .ok (.iload_n 1, 1) := by decide +kernel
theorem d_MO_end_10 : decode b_MO_end 10 = .ok (.aload_n 0, 1) := by decide +kernel
theorem d_MO_end_11 : decode b_MO_end 11 = .ok (.getfield 36, 3) := by decide +kernel
theorem d_MO_end_14 : decode b_MO_end 14 = .ok (.if_icmp .le 9, 3) := by decide +kernel
theorem d_MO_end_17 : decode b_MO_end 17 = .ok (.aload_n 0, 1) := by decide +kernel
theorem d_MO_end_18 : decode b_MO_end 18 = .ok (.iconst 1, 1) := by decide +kernel
theorem d_MO_end_19 : decode b_MO_end 19 = .ok (.invokevirtual 39, 3) := by decide +kernel
theorem d_MO_end_22 : decode b_MO_end 22 = .ok (.ireturn, 1) := by decide +kernel
theorem d_MO_end_23 : decode b_MO_end 23 = .ok (.aload_n 0, 1) := by decide +kernel
theorem d_MO_end_24 : decode b_MO_end 24 = .ok (.iload_n 1, 1) := by decide +kernel
theorem d_MO_end_25 : decode b_MO_end 25 = .ok (.putfield 36, 3) := by decide +kernel
theorem d_MO_end_28 : decode b_MO_end 28 = .ok (.iload_n 1, 1) := by decide +kernel
theorem d_MO_end_29 : decode b_MO_end 29 = .ok (.ireturn, 1) := by decide +kernel
theorem d_MO_put_0 : decode b_MO_put 0 = .ok (.aload_n 0, 1) := by decide +kernel
theorem d_MO_put_1 : decode b_MO_put 1 = .ok (.iconst 0, 1) := by decide +kernel
theorem d_MO_put_2 : decode b_MO_put 2 = .ok (.putfield 33, 3) := by decide +kernel
theorem d_MO_put_5 : decode b_MO_put 5 = .ok (.aload_n 0, 1) := by decide +kernel
theorem d_MO_put_6 : decode b_MO_put 6 = .ok (.getfield 36, 3) := by decide +kernel
theorem d_MO_put_9 : decode b_MO_put 9 = .ok (.iconst 1, 1) := by decide +kernel
theorem d_MO_put_10 : decode b_MO_put 10 = .ok (.if_icmp .lt 32, 3) := by decide +kernel
theorem d_MO_put_13 : decode b_MO_put 13 = .ok (.aload_n 0, 1) := by decide +kernel
theorem d_MO_put_14 : decode b_MO_put 14 = .ok (.getfield 36, 3) := by decide +kernel
theorem d_MO_put_17 : decode b_MO_put 17 = .ok (.bipush 40, 2) := by decide +kernel
theorem d_MO_put_19 : decode b_MO_put 19 = .ok (.if_icmp .gt 23, 3) := by decide +kernel
theorem d_MO_put_22 : decode b_MO_put 22 = .ok (.iload_n 1, 1) := by decide +kernel
theorem d_MO_put_23 : decode b_MO_put 23 = .ok (.ifCond .lt 19, 3) := by decide +kernel
theorem d_MO_put_26 : decode b_MO_put 26 = .ok (.iload_n 2, 1) := by decide +kernel
theorem d_MO_put_27 : decode b_MO_put 27 = .ok (.iconst (-1), 1) := by decide +kernel
theorem d_MO_put_28 : decode b_MO_put 28 = .ok (.if_icmp .lt 14, 3) := by decide +kernel
theorem d_MO_put_31 : decode b_MO_put 31 = .ok (.iload_n 3, 1) := by decide +kernel
theorem d_MO_put_32 : decode b_MO_put 32 = .ok (.ifCond .lt 10, 3) := by decide +kernel
theorem d_MO_put_35 : decode b_MO_put 35 = .ok (.iload_n 3, 1) := by decide +kernel
theorem d_MO_put_36 : decode b_MO_put 36 = .ok (.sipush 1000, 3) := by decide +kernel
theorem d_MO_put_39 : decode b_MO_put 39 = .ok (.if_icmp .le 9, 3) := by decide +kernel
theorem d_MO_put_42 : decode b_MO_put 42 = .ok (.aload_n 0, 1) := by decide +kernel
theorem d_MO_put_43 : decode b_MO_put 43 = .ok (.iconst 1, 1) := by decide +kernel
theorem d_MO_put_44 : decode b_MO_put 44 = .ok (.invokevirtual 39, 3) := by decide +kernel
theorem d_MO_put_47 : decode b_MO_put 47 = .ok (.ireturn, 1) := by decide +kernel
theorem d_MO_put_48 : decode b_MO_put 48 = .ok (.aload_n 0, 1) := by decide +kernel
theorem d_MO_put_49 : decode b_MO_put 49 = .ok (.getfield 36, 3) := by decide +kernel
theorem d_MO_put_52 : decode b_MO_put 52 = .ok (.istore 4, 2) := by decide +kernel
theorem d_MO_put_54 : decode b_MO_put 54 = .ok (.aload_n 0, 1) := by decide +kernel
theorem d_MO_put_55 : decode b_MO_put 55 = .ok (.iconst 0, 1) := by decide +kernel
theorem d_MO_put_56 : decode b_MO_put 56 = .ok (.putfield 36, 3) := by decide +kernel
theorem d_MO_put_59 : decode b_MO_put 59 = .ok (.aload_n 0, 1) := by decide +kernel
theorem d_MO_put_60 : decode b_MO_put 60 = .ok (.iload 4, 2) := by decide +kernel
theorem d_MO_put_62 : decode b_MO_put 62 = .ok (.iload_n 1, 1) := by decide +kernel
theorem d_MO_put_63 : decode b_MO_put 63 = .ok (.invokevirtual 50, 3) := by decide +kernel
theorem d_MO_put_66 : decode b_MO_put 66 = .ok (.istore 5, 2) := by decide +kernel
theorem d_MO_put_68 : decode b_MO_put 68 = .ok (.iload 5, 2) := by decide +kernel
theorem d_MO_put_70 : decode b_MO_put 70 = .ok (.aload_n 0, 1) := by decide +kernel
theorem d_MO_put_71 : decode b_MO_put 71 = .ok (.getfield 43, 3) := by decide +kernel
theorem d_MO_put_74 : decode b_MO_put 74 = .ok (.if_icmp .ge 19, 3) := by decide +kernel
theorem d_MO_put_77 : decode b_MO_put 77 = .ok (.aload_n 0, 1) := by decide +kernel
theorem d_MO_put_78 : decode b_MO_put 78 = .ok (.iload 5, 2) := by decide +kernel
theorem d_MO_put_80 : decode b_MO_put 80 = .ok (.iload 4, 2) := by decide +kernel
theorem d_MO_put_82 : decode b_MO_put 82 = .ok (.iload_n 1, 1) := by decide +kernel
theorem d_MO_put_83 : decode b_MO_put 83 = .ok (.invokevirtual 46, 3) := by decide +kernel
theorem d_MO_put_86 : decode b_MO_put 86 = .ok (.ifCond .ne 7, 3) := by decide +kernel
theorem d_MO_put_89 : decode b_MO_put 89 = .ok (.iconst 1, 1) := by decide +kernel
theorem d_MO_put_90 : decode b_MO_put 90 = .ok (.goto 4, 3) := by decide +kernel
theorem d_MO_put_93 : decode b_MO_put 93 = .ok (.iconst 0, 1) := by decide +kernel
theorem d_MO_put_94 : decode b_MO_put 94 = .ok (.istore 6, 2) := by decide +kernel
theorem d_MO_put_96 : decode b_MO_put 96 = .ok (.iload 6, 2) := by decide +kernel
theorem d_MO_put_98 : decode b_MO_put 98 = .ok (.ifCond .ne 19, 3) := by decide +kernel
theorem d_MO_put_101 : decode b_MO_put 101 = .ok (.aload_n 0, 1) := by decide +kernel
theorem d_MO_put_102 : decode b_MO_put 102 = .ok (.getfield 43, 3) := by decide +kernel
theorem d_MO_put_105 : decode b_MO_put 105 = .ok (.sipush 160, 3) := by decide +kernel
theorem d_MO_put_108 : decode b_MO_put 108 = .ok (.if_icmp .ne 9, 3) := by decide +kernel
theorem d_MO_put_111 : decode b_MO_put 111 = .ok (.aload_n 0, 1) := by decide +kernel
theorem d_MO_put_112 : decode b_MO_put 112 = .ok (.iconst 2, 1) := by decide +kernel
theorem d_MO_put_113 : decode b_MO_put 113 = .ok (.invokevirtual 39, 3) := by decide +kernel
theorem d_MO_put_116 : decode b_MO_put 116 = .ok (.ireturn, 1) := by decide +kernel
theorem d_MO_put_117 : decode b_MO_put 117 = .ok (.iload 6, 2) := by decide +kernel
theorem d_MO_put_119 : decode b_MO_put 119 = .ok (.ifCond .ne 91, 3) := by decide +kernel
theorem d_MO_put_122 : decode b_MO_put 122 = .ok (.aload_n 0, 1) := by decide +kernel
theorem d_MO_put_123 : decode b_MO_put 123 = .ok (.iload 5, 2) := by decide +kernel
theorem d_MO_put_125 : decode b_MO_put 125 = .ok (.invokevirtual 54, 3) := by decide +kernel
theorem d_MO_put_128 : decode b_MO_put 128 = .ok (.aload_n 0, 1) := by decide +kernel
theorem d_MO_put_129 : decode b_MO_put 129 = .ok (.dup, 1) := by decide +kernel
theorem d_MO_put_130 : decode b_MO_put 130 = .ok (.getfield 43, 3) := by decide +kernel
theorem d_MO_put_133 : decode b_MO_put 133 = .ok (.iconst 1, 1) := by decide +kernel
theorem d_MO_put_134 : decode b_MO_put 134 = .ok (.iadd, 1) := by decide +kernel
theorem d_MO_put_135 : decode b_MO_put 135 = .ok (.putfield 43, 3) := by decide +kernel
theorem d_MO_put_138 : decode b_MO_put 138 = .ok (.aload_n 0, 1) := by decide +kernel
theorem d_MO_put_139 : decode b_MO_put 139 = .ok (.getfield 29, 3) := by decide +kernel
theorem d_MO_put_142 : decode b_MO_put 142 = .ok (.iload 5, 2) := by decide +kernel
theorem d_MO_put_144 : decode b_MO_put 144 = .ok (.if_icmp .lt 13, 3) := by decide +kernel
theorem d_MO_put_147 : decode b_MO_put 147 = .ok (.aload_n 0, 1) := by decide +kernel
theorem d_MO_put_148 : decode b_MO_put 148 = .ok (.dup, 1) := by decide +kernel
theorem d_MO_put_149 : decode b_MO_put 149 = .ok (.getfield 29, 3) := by decide +kernel
theorem d_MO_put_152 : decode b_MO_put 152 = .ok (.iconst 1, 1) := by decide +kernel
theorem d_MO_put_153 : decode b_MO_put 153 = .ok (.iadd, 1) := by decide +kernel
theorem d_MO_put_154 : decode b_MO_put 154 = .ok (.putfield 29, 3) := by decide +kernel
theorem d_MO_put_157 : decode b_MO_put 157 = .ok (.iconst 0, 1) := by decide +kernel
theorem d_MO_put_158 : decode b_MO_put 158 = .ok (.istore 7, 2) := by decide +kernel
theorem d_MO_put_160 : decode b_MO_put 160 = .ok (.iload 7, 2) := by decide +kernel
theorem d_MO_put_162 : decode b_MO_put 162 = .ok (.iload 4, 2) := by decide +kernel
theorem d_MO_put_164 : decode b_MO_put 164 = .ok (.if_icmp .ge 29, 3) := by decide +kernel
theorem d_MO_put_167 : decode b_MO_put 167 = .ok (.aload_n 0, 1) := by decide +kernel
theorem d_MO_put_168 : decode b_MO_put 168 = .ok (.getfield 13, 3) := by decide +kernel
theorem d_MO_put_171 : decode b_MO_put 171 = .ok (.bipush 40, 2) := by decide +kernel
theorem d_MO_put_173 : decode b_MO_put 173 = .ok (.iload 5, 2) := by decide +kernel
theorem d_MO_put_175 : decode b_MO_put 175 = .ok (.imul, 1) := by decide +kernel
theorem d_MO_put_176 : decode b_MO_put 176 = .ok (.iload 7, 2) := by decide +kernel
theorem d_MO_put_178 : decode b_MO_put 178 = .ok (.iadd, 1) := by decide +kernel
theorem d_MO_put_179 : decode b_MO_put 179 = .ok (.aload_n 0, 1) := by decide +kernel
theorem d_MO_put_180 : decode b_MO_put 180 = .ok (.getfield 7, 3) := by decide +kernel
theorem d_MO_put_183 : decode b_MO_put 183 = .ok (.iload 7, 2) := by decide +kernel
theorem d_MO_put_185 : decode b_MO_put 185 = .ok (.baload, 1) := by decide +kernel
theorem d_MO_put_186 : decode b_MO_put 186 = .ok (.bastore, 1) := by decide +kernel
theorem d_MO_put_187 : decode b_MO_put 187 = .ok (.iinc 7 1, 3) := by decide +kernel
theorem d_MO_put_190 : decode b_MO_put 190 = .ok (.goto (-30), 3) := by decide +kernel
theorem d_MO_put_193 : decode b_MO_put 193 = .ok (.aload_n 0, 1) := by decide +kernel
theorem d_MO_put_194 : decode b_MO_put 194 = .ok (.getfield 16, 3) := by decide +kernel
theorem d_MO_put_197 : decode b_MO_put 197 = .ok (.iload 5, 2) := by decide +kernel
theorem d_MO_put_199 : decode b_MO_put 199 = .ok (.iload 4, 2) := by decide +kernel
theorem d_MO_put_201 : decode b_MO_put 201 = .ok (.iastore, 1) := by decide +kernel
theorem d_MO_put_202 : decode b_MO_put 202 = .ok (.aload_n 0, 1) := by decide +kernel
theorem d_MO_put_203 : decode b_MO_put 203 = .ok (.getfield 20, 3) := by decide +kernel
theorem d_MO_put_206 : decode b_MO_put 206 = .ok (.iload 5, 2) := by decide +kernel
theorem d_MO_put_208 : decode b_MO_put 208 = .ok (.iload_n 1, 1) := by decide +kernel
theorem d_MO_put_209 : decode b_MO_put 209 = .ok (.iastore, 1) := by decide +kernel
theorem d_MO_put_210 : decode b_MO_put 210 = .ok (.aload_n 0, 1) := by decide +kernel
theorem d_MO_put_211 : decode b_MO_put 211 = .ok (.getfield 23, 3) := by decide +kernel
theorem d_MO_put_214 : decode b_MO_put 214 = .ok (.iload 5, 2) := by decide +kernel
theorem d_MO_put_216 : decode b_MO_put 216 = .ok (.iload_n 2, 1) := by decide +kernel
theorem d_MO_put_217 : decode b_MO_put 217 = .ok (.iastore, 1) := by decide +kernel
theorem d_MO_put_218 : decode b_MO_put 218 = .ok (.aload_n 0, 1) := by decide +kernel
theorem d_MO_put_219 : decode b_MO_put 219 = .ok (.getfield 26, 3) := by decide +kernel
theorem d_MO_put_222 : decode b_MO_put 222 = .ok (.iload 5, 2) := by decide +kernel
theorem d_MO_put_224 : decode b_MO_put 224 = .ok (.iload_n 3, 1) := by decide +kernel
theorem d_MO_put_225 : decode b_MO_put 225 = .ok (.iastore, 1) := by decide +kernel
theorem d_MO_put_226 : decode b_MO_put 226 = .ok (.aload_n 0, 1) := by decide +kernel
theorem d_MO_put_227 : decode b_MO_put 227 = .ok (.getfield 43, 3) := by decide +kernel
theorem d_MO_put_230 : decode b_MO_put 230 = .ok (.ireturn, 1) := by decide +kernel
theorem d_MO_before_0 : decode b_MO_before 0 = .ok (.iconst 0, 1) := by decide +kernel
theorem d_MO_before_1 : decode b_MO_before 1 = .ok (.istore_n 3, 1) := by decide +kernel
theorem d_MO_before_2 : decode b_MO_before 2 = .ok (.iload_n 3, 1) := by decide +kernel
theorem d_MO_before_3 : decode b_MO_before 3 = .ok (.aload_n 0, 1) := by decide +kernel
theorem d_MO_before_4 : decode b_MO_before 4 = .ok (.getfield 43, 3) := by decide +kernel
theorem d_MO_before_7 : decode b_MO_before 7 = .ok (.if_icmp .ge 19, 3) := by decide +kernel
theorem d_MO_before_10 : decode b_MO_before 10 = .ok (.aload_n 0, 1) := by decide +kernel
theorem d_MO_before_11 : decode b_MO_before 11 = .ok (.iload_n 3, 1) := by decide +kernel
theorem d_MO_before_12 : decode b_MO_before 12 = .ok (.iload_n 1, 1) := by decide +kernel
theorem d_MO_before_13 : decode b_MO_before 13 = .ok (.iload_n 2, 1) := by decide +kernel
theorem d_MO_before_14 : decode b_MO_before 14 = .ok (.invokevirtual 46, 3) := by decide +kernel
theorem d_MO_before_17 : decode b_MO_before 17 = .ok (.ifCond .ge 9, 3) := by decide +kernel
theorem d_MO_before_20 : decode b_MO_before 20 = .ok (.iinc 3 1, 3) := by decide +kernel
theorem d_MO_before_23 : decode b_MO_before 23 = .ok (.goto (-21), 3) := by decide +kernel
theorem d_MO_before_26 : decode b_MO_before 26 = .ok (.iload_n 3, 1) := by decide +kernel
theorem d_MO_before_27 : decode b_MO_before 27 = .ok (.ireturn, 1) := by decide +kernel
theorem d_MO_compare_0 : decode b_MO_compare 0 = .ok (.iconst 0, 1) := by decide +kernel
theorem d_MO_compare_1 : decode b_MO_compare 1 = .ok (.istore 4, 2) := by decide +kernel
theorem d_MO_compare_3 : decode b_MO_compare 3 = .ok (.iload 4, 2) := by decide +kernel
theorem d_MO_compare_5 : decode b_MO_compare 5 = .ok (.aload_n 0, 1) := by decide +kernel
theorem d_MO_compare_6 : decode b_MO_compare 6 = .ok (.getfield 16, 3) := by decide +kernel
theorem d_MO_compare_9 : decode b_MO_compare 9 = .ok (.iload_n 1, 1) := by decide +kernel
theorem d_MO_compare_10 : decode b_MO_compare 10 = .ok (.iaload, 1) := by decide +kernel
theorem d_MO_compare_11 : decode b_MO_compare 11 = .ok (.if_icmp .ge 53, 3) := by decide +kernel
theorem d_MO_compare_14 : decode b_MO_compare 14 = .ok (.iload 4, 2) := by decide +kernel
theorem d_MO_compare_16 : decode b_MO_compare 16 = .ok (.iload_n 2, 1) := by decide +kernel
theorem d_MO_compare_17 : decode b_MO_compare 17 = .ok (.if_icmp .ge 47, 3) := by decide +kernel
theorem d_MO_compare_20 : decode b_MO_compare 20 = .ok (.aload_n 0, 1) := by decide +kernel
theorem d_MO_compare_21 : decode b_MO_compare 21 = .ok (.getfield 13, 3) := by decide +kernel
theorem d_MO_compare_24 : decode b_MO_compare 24 = .ok (.bipush 40, 2) := by decide +kernel
theorem d_MO_compare_26 : decode b_MO_compare 26 = .ok (.iload_n 1, 1) := by decide +kernel
theorem d_MO_compare_27 : decode b_MO_compare 27 = .ok (.imul, 1) := by decide +kernel
theorem d_MO_compare_28 : decode b_MO_compare 28 = .ok (.iload 4, 2) := by decide +kernel
theorem d_MO_compare_30 : decode b_MO_compare 30 = .ok (.iadd, 1) := by decide +kernel
theorem d_MO_compare_31 : decode b_MO_compare 31 = .ok (.baload, 1) := by decide +kernel
theorem d_MO_compare_32 : decode b_MO_compare 32 = .ok (.sipush 255, 3) := by decide +kernel
theorem d_MO_compare_35 : decode b_MO_compare 35 = .ok (.iand, 1) := by decide +kernel
theorem d_MO_compare_36 : decode b_MO_compare 36 = .ok (.aload_n 0, 1) := by decide +kernel
theorem d_MO_compare_37 : decode b_MO_compare 37 = .ok (.getfield 7, 3) := by decide +kernel
theorem d_MO_compare_40 : decode b_MO_compare 40 = .ok (.iload 4, 2) := by decide +kernel
theorem d_MO_compare_42 : decode b_MO_compare 42 = .ok (.baload, 1) := by decide +kernel
theorem d_MO_compare_43 : decode b_MO_compare 43 = .ok (.sipush 255, 3) := by decide +kernel
theorem d_MO_compare_46 : decode b_MO_compare 46 = .ok (.iand, 1) := by decide +kernel
theorem d_MO_compare_47 : decode b_MO_compare 47 = .ok (.isub, 1) := by decide +kernel
theorem d_MO_compare_48 : decode b_MO_compare 48 = .ok (.istore 5, 2) := by decide +kernel
theorem d_MO_compare_50 : decode b_MO_compare 50 = .ok (.iload 5, 2) := by decide +kernel
theorem d_MO_compare_52 : decode b_MO_compare 52 = .ok (.ifCond .eq 6, 3) := by decide +kernel
theorem d_MO_compare_55 : decode b_MO_compare 55 = .ok (.iload 5, 2) := by decide +kernel
theorem d_MO_compare_57 : decode b_MO_compare 57 = .ok (.ireturn, 1) := by decide +kernel
theorem d_MO_compare_58 : decode b_MO_compare 58 = .ok (.iinc 4 1, 3) := by decide +kernel
theorem d_MO_compare_61 : decode b_MO_compare 61 = .ok (.goto (-58), 3) := by decide +kernel
theorem d_MO_compare_64 : decode b_MO_compare 64 = .ok (.aload_n 0, 1) := by decide +kernel
theorem d_MO_compare_65 : decode b_MO_compare 65 = .ok (.getfield 16, 3) := by decide +kernel
theorem d_MO_compare_68 : decode b_MO_compare 68 = .ok (.iload_n 1, 1) := by decide +kernel
theorem d_MO_compare_69 : decode b_MO_compare 69 = .ok (.iaload, 1) := by decide +kernel
theorem d_MO_compare_70 : decode b_MO_compare 70 = .ok (.iload_n 2, 1) := by decide +kernel
theorem d_MO_compare_71 : decode b_MO_compare 71 = .ok (.if_icmp .eq 12, 3) := by decide +kernel
theorem d_MO_compare_74 : decode b_MO_compare 74 = .ok (.aload_n 0, 1) := by decide +kernel
theorem d_MO_compare_75 : decode b_MO_compare 75 = .ok (.getfield 16, 3) := by decide +kernel
theorem d_MO_compare_78 : decode b_MO_compare 78 = .ok (.iload_n 1, 1) := by decide +kernel
theorem d_MO_compare_79 : decode b_MO_compare 79 = .ok (.iaload, 1) := by decide +kernel
theorem d_MO_compare_80 : decode b_MO_compare 80 = .ok (.iload_n 2, 1) := by decide +kernel
theorem d_MO_compare_81 : decode b_MO_compare 81 = .ok (.isub, 1) := by decide +kernel
theorem d_MO_compare_82 : decode b_MO_compare 82 = .ok (.ireturn, 1) := by decide +kernel
theorem d_MO_compare_83 : decode b_MO_compare 83 = .ok (.aload_n 0, 1) := by decide +kernel
theorem d_MO_compare_84 : decode b_MO_compare 84 = .ok (.getfield 20, 3) := by decide +kernel
theorem d_MO_compare_87 : decode b_MO_compare 87 = .ok (.iload_n 1, 1) := by decide +kernel
theorem d_MO_compare_88 : decode b_MO_compare 88 = .ok (.iaload, 1) := by decide +kernel
theorem d_MO_compare_89 : decode b_MO_compare 89 = .ok (.iload_n 3, 1) := by decide +kernel
theorem d_MO_compare_90 : decode b_MO_compare 90 = .ok (.if_icmp .le 7, 3) := by decide +kernel
theorem d_MO_compare_93 : decode b_MO_compare 93 = .ok (.iconst (-1), 1) := by decide +kernel
theorem d_MO_compare_94 : decode b_MO_compare 94 = .ok (.goto 18, 3) := by decide +kernel
theorem d_MO_compare_97 : decode b_MO_compare 97 = .ok (.aload_n 0, 1) := by decide +kernel
theorem d_MO_compare_98 : decode b_MO_compare 98 = .ok (.getfield 20, 3) := by decide +kernel
theorem d_MO_compare_101 : decode b_MO_compare 101 = .ok (.iload_n 1, 1) := by decide +kernel
theorem d_MO_compare_102 : decode b_MO_compare 102 = .ok (.iaload, 1) := by decide +kernel
theorem d_MO_compare_103 : decode b_MO_compare 103 = .ok (.iload_n 3, 1) := by decide +kernel
theorem d_MO_compare_104 : decode b_MO_compare 104 = .ok (.if_icmp .ge 7, 3) := by decide +kernel
theorem d_MO_compare_107 : decode b_MO_compare 107 = .ok (.iconst 1, 1) := by decide +kernel
theorem d_MO_compare_108 : decode b_MO_compare 108 = .ok (.goto 4, 3) := by decide +kernel
theorem d_MO_compare_111 : decode b_MO_compare 111 = .ok (.iconst 0, 1) := by decide +kernel
theorem d_MO_compare_112 : decode b_MO_compare 112 = .ok (.ireturn, 1) := by decide +kernel
theorem d_MO_moveUp_0 : decode b_MO_moveUp 0 = .ok (.aload_n 0, 1) := by decide +kernel
theorem d_MO_moveUp_1 : decode b_MO_moveUp 1 = .ok (.getfield 43, 3) := by decide +kernel
theorem d_MO_moveUp_4 : decode b_MO_moveUp 4 = .ok (.istore_n 2, 1) := by decide +kernel
theorem d_MO_moveUp_5 : decode b_MO_moveUp 5 = .ok (.iload_n 2, 1) := by decide +kernel
theorem d_MO_moveUp_6 : decode b_MO_moveUp 6 = .ok (.iload_n 1, 1) := by decide +kernel
theorem d_MO_moveUp_7 : decode b_MO_moveUp 7 = .ok (.if_icmp .le 104, 3) := by decide +kernel
theorem d_MO_moveUp_10 : decode b_MO_moveUp 10 = .ok (.iconst 0, 1) := by decide +kernel
theorem d_MO_moveUp_11 : decode b_MO_moveUp 11 = .ok (.istore_n 3, 1) := by decide +kernel
theorem d_MO_moveUp_12 : decode b_MO_moveUp 12 = .ok (.iload_n 3, 1) := by decide +kernel
theorem d_MO_moveUp_13 : decode b_MO_moveUp 13 = .ok (.bipush 40, 2) := by decide +kernel
theorem d_MO_moveUp_15 : decode b_MO_moveUp 15 = .ok (.if_icmp .ge 34, 3) := by decide +kernel
theorem d_MO_moveUp_18 : decode b_MO_moveUp 18 = .ok (.aload_n 0, 1) := by decide +kernel
theorem d_MO_moveUp_19 : decode b_MO_moveUp 19 = .ok (.getfield 13, 3) := by decide +kernel
theorem d_MO_moveUp_22 : decode b_MO_moveUp 22 = .ok (.bipush 40, 2) := by decide +kernel
theorem d_MO_moveUp_24 : decode b_MO_moveUp 24 = .ok (.iload_n 2, 1) := by decide +kernel
theorem d_MO_moveUp_25 : decode b_MO_moveUp 25 = .ok (.imul, 1) := by decide +kernel
theorem d_MO_moveUp_26 : decode b_MO_moveUp 26 = .ok (.iload_n 3, 1) := by decide +kernel
theorem d_MO_moveUp_27 : decode b_MO_moveUp 27 = .ok (.iadd, 1) := by decide +kernel
theorem d_MO_moveUp_28 : decode b_MO_moveUp 28 = .ok (.aload_n 0, 1) := by decide +kernel
theorem d_MO_moveUp_29 : decode b_MO_moveUp 29 = .ok (.getfield 13, 3) := by decide +kernel
theorem d_MO_moveUp_32 : decode b_MO_moveUp 32 = .ok (.bipush 40, 2) := by decide +kernel
theorem d_MO_moveUp_34 : decode b_MO_moveUp 34 = .ok (.iload_n 2, 1) := by decide +kernel
theorem d_MO_moveUp_35 : decode b_MO_moveUp 35 = .ok (.imul, 1) := by decide +kernel
theorem d_MO_moveUp_36 : decode b_MO_moveUp 36 = .ok (.bipush 40, 2) := by decide +kernel
theorem d_MO_moveUp_38 : decode b_MO_moveUp 38 = .ok (.isub, 1) := by decide +kernel
theorem d_MO_moveUp_39 : decode b_MO_moveUp 39 = .ok (.iload_n 3, 1) := by decide +kernel
theorem d_MO_moveUp_40 : decode b_MO_moveUp 40 = .ok (.iadd, 1) := by decide +kernel
theorem d_MO_moveUp_41 : decode b_MO_moveUp 41 = .ok (.baload, 1) := by decide +kernel
theorem d_MO_moveUp_42 : decode b_MO_moveUp 42 = .ok (.bastore, 1) := by decide +kernel
theorem d_MO_moveUp_43 : decode b_MO_moveUp 43 = .ok (.iinc 3 1, 3) := by decide +kernel
theorem d_MO_moveUp_46 : decode b_MO_moveUp 46 = .ok (.goto (-34), 3) := by decide +kernel
theorem d_MO_moveUp_49 : decode b_MO_moveUp 49 = .ok (.aload_n 0, 1) := by decide +kernel
theorem d_MO_moveUp_50 : decode b_MO_moveUp 50 = .ok (.getfield 16, 3) := by decide +kernel
theorem d_MO_moveUp_53 : decode b_MO_moveUp 53 = .ok (.iload_n 2, 1) := by decide +kernel
theorem d_MO_moveUp_54 : decode b_MO_moveUp 54 = .ok (.aload_n 0, 1) := by decide +kernel
theorem d_MO_moveUp_55 : decode b_MO_moveUp 55 = .ok (.getfield 16, 3) := by decide +kernel
theorem d_MO_moveUp_58 : decode b_MO_moveUp 58 = .ok (.iload_n 2, 1) := by decide +kernel
theorem d_MO_moveUp_59 : decode b_MO_moveUp 59 = .ok (.iconst 1, 1) := by decide +kernel
theorem d_MO_moveUp_60 : decode b_MO_moveUp 60 = .ok (.isub, 1) := by decide +kernel
theorem d_MO_moveUp_61 : decode b_MO_moveUp 61 = .ok (.iaload, 1) := by decide +kernel
theorem d_MO_moveUp_62 : decode b_MO_moveUp 62 = .ok (.iastore, 1) := by decide +kernel
theorem d_MO_moveUp_63 : decode b_MO_moveUp 63 = .ok (.aload_n 0, 1) := by decide +kernel
theorem d_MO_moveUp_64 : decode b_MO_moveUp 64 = .ok (.getfield 20, 3) := by decide +kernel
theorem d_MO_moveUp_67 : decode b_MO_moveUp 67 = .ok (.iload_n 2, 1) := by decide +kernel
theorem d_MO_moveUp_68 : decode b_MO_moveUp 68 = .ok (.aload_n 0, 1) := by decide +kernel
theorem d_MO_moveUp_69 : decode b_MO_moveUp 69 = .ok (.getfield 20, 3) := by decide +kernel
theorem d_MO_moveUp_72 : decode b_MO_moveUp 72 = .ok (.iload_n 2, 1) := by decide +kernel
theorem d_MO_moveUp_73 : decode b_MO_moveUp 73 = .ok (.iconst 1, 1) := by decide +kernel
theorem d_MO_moveUp_74 : decode b_MO_moveUp 74 = .ok (.isub, 1) := by decide +kernel
theorem d_MO_moveUp_75 : decode b_MO_moveUp 75 = .ok (.iaload, 1) := by decide +kernel
theorem d_MO_moveUp_76 : decode b_MO_moveUp 76 = .ok (.iastore, 1) := by decide +kernel
theorem d_MO_moveUp_77 : decode b_MO_moveUp 77 = .ok (.aload_n 0, 1) := by decide +kernel
theorem d_MO_moveUp_78 : decode b_MO_moveUp 78 = .ok (.getfield 23, 3) := by decide +kernel
theorem d_MO_moveUp_81 : decode b_MO_moveUp 81 = .ok (.iload_n 2, 1) := by decide +kernel
theorem d_MO_moveUp_82 : decode b_MO_moveUp 82 = .ok (.aload_n 0, 1) := by decide +kernel
theorem d_MO_moveUp_83 : decode b_MO_moveUp 83 = .ok (.getfield 23, 3) := by decide +kernel
theorem d_MO_moveUp_86 : decode b_MO_moveUp 86 = .ok (.iload_n 2, 1) := by decide +kernel
theorem d_MO_moveUp_87 : decode b_MO_moveUp 87 = .ok (.iconst 1, 1) := by decide +kernel
theorem d_MO_moveUp_88 : decode b_MO_moveUp 88 = .ok (.isub, 1) := by decide +kernel
theorem d_MO_moveUp_89 : decode b_MO_moveUp 89 = .ok (.iaload, 1) := by decide +kernel
theorem d_MO_moveUp_90 : decode b_MO_moveUp 90 = .ok (.iastore, 1) := by decide +kernel
theorem d_MO_moveUp_91 : decode b_MO_moveUp 91 = .ok (.aload_n 0, 1) := by decide +kernel
theorem d_MO_moveUp_92 : decode b_MO_moveUp 92 = .ok (.getfield 26, 3) := by decide +kernel
theorem d_MO_moveUp_95 : decode b_MO_moveUp 95 = .ok (.iload_n 2, 1) := by decide +kernel
theorem d_MO_moveUp_96 : decode b_MO_moveUp 96 = .ok (.aload_n 0, 1) := by decide +kernel
theorem d_MO_moveUp_97 : decode b_MO_moveUp 97 = .ok (.getfield 26, 3) := by decide +kernel
theorem d_MO_moveUp_100 : decode b_MO_moveUp 100 = .ok (.iload_n 2, 1) := by decide +kernel
theorem d_MO_moveUp_101 : decode b_MO_moveUp 101 = .ok (.iconst 1, 1) := by decide +kernel
theorem d_MO_moveUp_102 : decode b_MO_moveUp 102 = .ok (.isub, 1) := by decide +kernel
theorem d_MO_moveUp_103 : decode b_MO_moveUp 103 = .ok (.iaload, 1) := by decide +kernel
theorem d_MO_moveUp_104 : decode b_MO_moveUp 104 = .ok (.iastore, 1) := by decide +kernel
theorem d_MO_moveUp_105 : decode b_MO_moveUp 105 = .ok (.iinc 2 (-1), 3) := by decide +kernel
theorem d_MO_moveUp_108 : decode b_MO_moveUp 108 = .ok (.goto (-103), 3) := by decide +kernel
theorem d_MO_moveUp_111 : decode b_MO_moveUp 111 = .ok (.return_, 1) := by decide +kernel
theorem d_MO_find_0 : decode b_MO_find 0 = .ok (.aload_n 0, 1) := by decide +kernel
theorem d_MO_find_1 : decode b_MO_find 1 = .ok (.iconst 0, 1) := by decide +kernel
theorem d_MO_find_2 : decode b_MO_find 2 = .ok (.putfield 33, 3) := by decide +kernel
theorem d_MO_find_5 : decode b_MO_find 5 = .ok (.aload_n 0, 1) := by decide +kernel
theorem d_MO_find_6 : decode b_MO_find 6 = .ok (.getfield 36, 3) := by decide +kernel
theorem d_MO_find_9 : decode b_MO_find 9 = .ok (.iconst 1, 1) := by decide +kernel
theorem d_MO_find_10 : decode b_MO_find 10 = .ok (.if_icmp .lt 12, 3) := by decide +kernel
theorem d_MO_find_13 : decode b_MO_find 13 = .ok (.aload_n 0, 1) := by decide +kernel
theorem d_MO_find_14 : decode b_MO_find 14 = .ok (.getfield 36, 3) := by decide +kernel
theorem d_MO_find_17 : decode b_MO_find 17 = .ok (.bipush 40, 2) := by decide +kernel
theorem d_MO_find_19 : decode b_MO_find 19 = .ok (.if_icmp .le 9, 3) := by decide +kernel
theorem d_MO_find_22 : decode b_MO_find 22 = .ok (.aload_n 0, 1) := by decide +kernel
theorem d_MO_find_23 : decode b_MO_find 23 = .ok (.iconst 1, 1) := by decide +kernel
theorem d_MO_find_24 : decode b_MO_find 24 = .ok (.invokevirtual 39, 3) := by decide +kernel
theorem d_MO_find_27 : decode b_MO_find 27 = .ok (.ireturn, 1) := by decide +kernel
theorem d_MO_find_28 : decode b_MO_find 28 = .ok (.aload_n 0, 1) := by decide +kernel
theorem d_MO_find_29 : decode b_MO_find 29 = .ok (.getfield 36, 3) := by decide +kernel
theorem d_MO_find_32 : decode b_MO_find 32 = .ok (.istore_n 2, 1) := by decide +kernel
theorem d_MO_find_33 : decode b_MO_find 33 = .ok (.aload_n 0, 1) := by decide +kernel
theorem d_MO_find_34 : decode b_MO_find 34 = .ok (.iconst 0, 1) := by decide +kernel
theorem d_MO_find_35 : decode b_MO_find 35 = .ok (.putfield 36, 3) := by decide +kernel
theorem d_MO_find_38 : decode b_MO_find 38 = .ok (.aload_n 0, 1) := by decide +kernel
theorem d_MO_find_39 : decode b_MO_find 39 = .ok (.iload_n 2, 1) := by decide +kernel
theorem d_MO_find_40 : decode b_MO_find 40 = .ok (.iload_n 1, 1) := by decide +kernel
theorem d_MO_find_41 : decode b_MO_find 41 = .ok (.invokevirtual 50, 3) := by decide +kernel
theorem d_MO_find_44 : decode b_MO_find 44 = .ok (.istore_n 3, 1) := by decide +kernel
theorem d_MO_find_45 : decode b_MO_find 45 = .ok (.aload_n 0, 1) := by decide +kernel
theorem d_MO_find_46 : decode b_MO_find 46 = .ok (.iload_n 3, 1) := by decide +kernel
theorem d_MO_find_47 : decode b_MO_find 47 = .ok (.iload_n 3, 1) := by decide +kernel
theorem d_MO_find_48 : decode b_MO_find 48 = .ok (.aload_n 0, 1) := by decide +kernel
theorem d_MO_find_49 : decode b_MO_find 49 = .ok (.getfield 43, 3) := by decide +kernel
theorem d_MO_find_52 : decode b_MO_find 52 = .ok (.if_icmp .ge 22, 3) := by decide +kernel
theorem d_MO_find_55 : decode b_MO_find 55 = .ok (.aload_n 0, 1) := by decide +kernel
theorem d_MO_find_56 : decode b_MO_find 56 = .ok (.iload_n 3, 1) := by decide +kernel
theorem d_MO_find_57 : decode b_MO_find 57 = .ok (.iload_n 2, 1) := by decide +kernel
theorem d_MO_find_58 : decode b_MO_find 58 = .ok (.aload_n 0, 1) := by decide +kernel
theorem d_MO_find_59 : decode b_MO_find 59 = .ok (.getfield 20, 3) := by decide +kernel
theorem d_MO_find_62 : decode b_MO_find 62 = .ok (.iload_n 3, 1) := by decide +kernel
theorem d_MO_find_63 : decode b_MO_find 63 = .ok (.iaload, 1) := by decide +kernel
theorem d_MO_find_64 : decode b_MO_find 64 = .ok (.invokevirtual 46, 3) := by decide +kernel
theorem d_MO_find_67 : decode b_MO_find 67 = .ok (.ifCond .ne 7, 3) := by decide +kernel
theorem d_MO_find_70 : decode b_MO_find 70 = .ok (.iconst 1, 1) := by decide +kernel
theorem d_MO_find_71 : decode b_MO_find 71 = .ok (.goto 4, 3) := by decide +kernel
theorem d_MO_find_74 : decode b_MO_find 74 = .ok (.iconst 0, 1) := by decide +kernel
theorem d_MO_find_75 : decode b_MO_find 75 = .ok (.iconst 2, 1) := by decide +kernel
theorem d_MO_find_76 : decode b_MO_find 76 = .ok (.invokevirtual 58, 3) := by decide +kernel
theorem d_MO_find_79 : decode b_MO_find 79 = .ok (.ireturn, 1) := by decide +kernel
theorem d_MO_go_0 : decode b_MO_go 0 = .ok (.aload_n 0, 1) := by decide +kernel
theorem d_MO_go_1 : decode b_MO_go 1 = .ok (.iload_n 2, 1) := by decide +kernel
theorem d_MO_go_2 : decode b_MO_go 2 = .ok (.ifCond .eq 7, 3) := by decide +kernel
theorem d_MO_go_5 : decode b_MO_go 5 = .ok (.iload_n 1, 1) := by decide +kernel
theorem d_MO_go_6 : decode b_MO_go 6 = .ok (.goto 4, 3) := by decide +kernel
theorem d_MO_go_9 : decode b_MO_go 9 = .ok (.iconst (-1), 1) := by decide +kernel
theorem d_MO_go_10 : decode b_MO_go 10 = .ok (.putfield 29, 3) := by decide +kernel
theorem d_MO_go_13 : decode b_MO_go 13 = .ok (.iload_n 2, 1) := by decide +kernel
theorem d_MO_go_14 : decode b_MO_go 14 = .ok (.ifCond .eq 12, 3) := by decide +kernel
theorem d_MO_go_17 : decode b_MO_go 17 = .ok (.aload_n 0, 1) := by decide +kernel
theorem d_MO_go_18 : decode b_MO_go 18 = .ok (.getfield 23, 3) := by decide +kernel
theorem d_MO_go_21 : decode b_MO_go 21 = .ok (.iload_n 1, 1) := by decide +kernel
theorem d_MO_go_22 : decode b_MO_go 22 = .ok (.iaload, 1) := by decide +kernel
theorem d_MO_go_23 : decode b_MO_go 23 = .ok (.goto 8, 3) := by decide +kernel
theorem d_MO_go_26 : decode b_MO_go 26 = .ok (.aload_n 0, 1) := by decide +kernel
theorem d_MO_go_27 : decode b_MO_go 27 = .ok (.iload_n 3, 1) := by decide +kernel
theorem d_MO_go_28 : decode b_MO_go 28 = .ok (.invokevirtual 39, 3) := by decide +kernel
theorem d_MO_go_31 : decode b_MO_go 31 = .ok (.ireturn, 1) := by decide +kernel
theorem d_MO_seek_0 : decode b_MO_seek 0 = .ok (.aload_n 0, 1) := by decide +kernel
theorem d_MO_seek_1 : decode b_MO_seek 1 = .ok (.iconst 0, 1) := by decide +kernel
theorem d_MO_seek_2 : decode b_MO_seek 2 = .ok (.putfield 33, 3) := by decide +kernel
theorem d_MO_seek_5 : decode b_MO_seek 5 = .ok (.aload_n 0, 1) := by decide +kernel
theorem d_MO_seek_6 : decode b_MO_seek 6 = .ok (.getfield 36, 3) := by decide +kernel
theorem d_MO_seek_9 : decode b_MO_seek 9 = .ok (.bipush 40, 2) := by decide +kernel
theorem d_MO_seek_11 : decode b_MO_seek 11 = .ok (.if_icmp .le 9, 3) := by decide +kernel
theorem d_MO_seek_14 : decode b_MO_seek 14 = .ok (.aload_n 0, 1) := by decide +kernel
theorem d_MO_seek_15 : decode b_MO_seek 15 = .ok (.iconst 1, 1) := by decide +kernel
theorem d_MO_seek_16 : decode b_MO_seek 16 = .ok (.invokevirtual 39, 3) := by decide +kernel
theorem d_MO_seek_19 : decode b_MO_seek 19 = .ok (.ireturn, 1) := by decide +kernel
theorem d_MO_seek_20 : decode b_MO_seek 20 = .ok (.aload_n 0, 1) := by decide +kernel
theorem d_MO_seek_21 : decode b_MO_seek 21 = .ok (.getfield 36, 3) := by decide +kernel
theorem d_MO_seek_24 : decode b_MO_seek 24 = .ok (.istore_n 3, 1) := by decide +kernel
theorem d_MO_seek_25 : decode b_MO_seek 25 = .ok (.aload_n 0, 1) := by decide +kernel
theorem d_MO_seek_26 : decode b_MO_seek 26 = .ok (.iconst 0, 1) := by decide +kernel
theorem d_MO_seek_27 : decode b_MO_seek 27 = .ok (.putfield 36, 3) := by decide +kernel
theorem d_MO_seek_30 : decode b_MO_seek 30 = .ok (.aload_n 0, 1) := by decide +kernel
theorem d_MO_seek_31 : decode b_MO_seek 31 = .ok (.iload_n 3, 1) := by decide +kernel
theorem d_MO_seek_32 : decode b_MO_seek 32 = .ok (.iload_n 1, 1) := by decide +kernel
theorem d_MO_seek_33 : decode b_MO_seek 33 = .ok (.invokevirtual 50, 3) := by decide +kernel
theorem d_MO_seek_36 : decode b_MO_seek 36 = .ok (.istore 4, 2) := by decide +kernel
theorem d_MO_seek_38 : decode b_MO_seek 38 = .ok (.iload_n 2, 1) := by decide +kernel
theorem d_MO_seek_39 : decode b_MO_seek 39 = .ok (.ifCond .eq 26, 3) := by decide +kernel
theorem d_MO_seek_42 : decode b_MO_seek 42 = .ok (.iload 4, 2) := by decide +kernel
theorem d_MO_seek_44 : decode b_MO_seek 44 = .ok (.aload_n 0, 1) := by decide +kernel
theorem d_MO_seek_45 : decode b_MO_seek 45 = .ok (.getfield 43, 3) := by decide +kernel
theorem d_MO_seek_48 : decode b_MO_seek 48 = .ok (.if_icmp .ge 17, 3) := by decide +kernel
theorem d_MO_seek_51 : decode b_MO_seek 51 = .ok (.aload_n 0, 1) := by decide +kernel
theorem d_MO_seek_52 : decode b_MO_seek 52 = .ok (.iload 4, 2) := by decide +kernel
theorem d_MO_seek_54 : decode b_MO_seek 54 = .ok (.iload_n 3, 1) := by decide +kernel
theorem d_MO_seek_55 : decode b_MO_seek 55 = .ok (.iload_n 1, 1) := by decide +kernel
theorem d_MO_seek_56 : decode b_MO_seek 56 = .ok (.invokevirtual 46, 3) := by decide +kernel
theorem d_MO_seek_59 : decode b_MO_seek 59 = .ok (.ifCond .ne 6, 3) := by decide +kernel
theorem d_MO_seek_62 : decode b_MO_seek 62 = .ok (.iinc 4 1, 3) := by decide +kernel
theorem d_MO_seek_65 : decode b_MO_seek 65 = .ok (.aload_n 0, 1) := by decide +kernel
theorem d_MO_seek_66 : decode b_MO_seek 66 = .ok (.iload 4, 2) := by decide +kernel
theorem d_MO_seek_68 : decode b_MO_seek 68 = .ok (.iload 4, 2) := by decide +kernel
theorem d_MO_seek_70 : decode b_MO_seek 70 = .ok (.aload_n 0, 1) := by decide +kernel
theorem d_MO_seek_71 : decode b_MO_seek 71 = .ok (.getfield 43, 3) := by decide +kernel
theorem d_MO_seek_74 : decode b_MO_seek 74 = .ok (.if_icmp .ge 7, 3) := by decide +kernel
theorem d_MO_seek_77 : decode b_MO_seek 77 = .ok (.iconst 1, 1) := by decide +kernel
theorem d_MO_seek_78 : decode b_MO_seek 78 = .ok (.goto 4, 3) := by decide +kernel
theorem d_MO_seek_81 : decode b_MO_seek 81 = .ok (.iconst 0, 1) := by decide +kernel
theorem d_MO_seek_82 : decode b_MO_seek 82 = .ok (.iconst 2, 1) := by decide +kernel
theorem d_MO_seek_83 : decode b_MO_seek 83 = .ok (.invokevirtual 58, 3) := by decide +kernel
theorem d_MO_seek_86 : decode b_MO_seek 86 = .ok (.ireturn, 1) := by decide +kernel
theorem d_MO_next_0 : decode b_MO_next 0 = .ok (.aload_n 0, 1) := by decide +kernel
theorem d_MO_next_1 : decode b_MO_next 1 = .ok (.iconst 0, 1) := by decide +kernel
theorem d_MO_next_2 : decode b_MO_next 2 = .ok (.putfield 33, 3) := by decide +kernel
theorem d_MO_next_5 : decode b_MO_next 5 = .ok (.aload_n 0, 1) := by decide +kernel
theorem d_MO_next_6 : decode b_MO_next 6 = .ok (.aload_n 0, 1) := by decide +kernel
theorem d_MO_next_7 : decode b_MO_next 7 = .ok (.getfield 29, 3) := by decide +kernel
theorem d_MO_next_10 : decode b_MO_next 10 = .ok (.iconst 1, 1) := by decide +kernel
theorem d_MO_next_11 : decode b_MO_next 11 = .ok (.iadd, 1) := by decide +kernel
theorem d_MO_next_12 : decode b_MO_next 12 = .ok (.aload_n 0, 1) := by decide +kernel
theorem d_MO_next_13 : decode b_MO_next 13 = .ok (.getfield 29, 3) := by decide +kernel
theorem d_MO_next_16 : decode b_MO_next 16 = .ok (.ifCond .lt 20, 3) := by decide +kernel
theorem d_MO_next_19 : decode b_MO_next 19 = .ok (.aload_n 0, 1) := by decide +kernel
theorem d_MO_next_20 : decode b_MO_next 20 = .ok (.getfield 29, 3) := by decide +kernel
theorem d_MO_next_23 : decode b_MO_next 23 = .ok (.iconst 1, 1) := by decide +kernel
theorem d_MO_next_24 : decode b_MO_next 24 = .ok (.iadd, 1) := by decide +kernel
theorem d_MO_next_25 : decode b_MO_next 25 = .ok (.aload_n 0, 1) := by decide +kernel
theorem d_MO_next_26 : decode b_MO_next 26 = .ok (.getfield 43, 3) := by decide +kernel
theorem d_MO_next_29 : decode b_MO_next 29 = .ok (.if_icmp .ge 7, 3) := by decide +kernel
theorem d_MO_next_32 : decode b_MO_next 32 = .ok (.iconst 1, 1) := by decide +kernel
theorem d_MO_next_33 : decode b_MO_next 33 = .ok (.goto 4, 3) := by decide +kernel
theorem d_MO_next_36 : decode b_MO_next 36 = .ok (.iconst 0, 1) := by decide +kernel
theorem d_MO_next_37 : decode b_MO_next 37 = .ok (.iconst 1, 1) := by decide +kernel
theorem d_MO_next_38 : decode b_MO_next 38 = .ok (.invokevirtual 58, 3) := by decide +kernel
theorem d_MO_next_41 : decode b_MO_next 41 = .ok (.ireturn, 1) := by decide +kernel
theorem d_MO_first_0 : decode b_MO_first 0 = .ok (.aload_n 0, 1) := by decide +kernel
theorem d_MO_first_1 : decode b_MO_first 1 = .ok (.iconst 0, 1) := by decide +kernel
theorem d_MO_first_2 : decode b_MO_first 2 = .ok (.putfield 33, 3) := by decide +kernel
theorem d_MO_first_5 : decode b_MO_first 5 = .ok (.aload_n 0, 1) := by decide +kernel
theorem d_MO_first_6 : decode b_MO_first 6 = .ok (.iconst 0, 1) := by decide +kernel
theorem d_MO_first_7 : decode b_MO_first 7 = .ok (.aload_n 0, 1) := by decide +kernel
theorem d_MO_first_8 : decode b_MO_first 8 = .ok (.getfield 43, 3) := by decide +kernel
theorem d_MO_first_11 : decode b_MO_first 11 = .ok (.ifCond .le 7, 3) := by decide +kernel
theorem d_MO_first_14 : decode b_MO_first 14 = .ok (.iconst 1, 1) := by decide +kernel
theorem d_MO_first_15 : decode b_MO_first 15 = .ok (.goto 4, 3) := by decide +kernel
theorem d_MO_first_18 : decode b_MO_first 18 = .ok (.iconst 0, 1) := by decide +kernel
theorem d_MO_first_19 : decode b_MO_first 19 = .ok (.iconst 1, 1) := by decide +kernel
theorem d_MO_first_20 : decode b_MO_first 20 = .ok (.invokevirtual 58, 3) := by decide +kernel
theorem d_MO_first_23 : decode b_MO_first 23 = .ok (.ireturn, 1) := by decide +kernel
theorem d_MO_current_0 : decode b_MO_current 0 = .ok (.aload_n 0, 1) := by decide +kernel
theorem d_MO_current_1 : decode b_MO_current 1 = .ok (.iconst 0, 1) := by decide +kernel
theorem d_MO_current_2 : decode b_MO_current 2 = .ok (.putfield 33, 3) := by decide +kernel
theorem d_MO_current_5 : decode b_MO_current 5 = .ok (.iload_n 1, 1) := by decide +kernel
theorem d_MO_current_6 : decode b_MO_current 6 = .ok (.ifCond .lt 8, 3) := by decide +kernel
theorem d_MO_current_9 : decode b_MO_current 9 = .ok (.iload_n 1, 1) := by decide +kernel
theorem d_MO_current_10 : decode b_MO_current 10 = .ok (.iconst 3, 1) := by decide +kernel
theorem d_MO_current_11 : decode b_MO_current 11 = .ok (.if_icmp .le 9, 3) := by decide +kernel
theorem d_MO_current_14 : decode b_MO_current 14 = .ok (.aload_n 0, 1) := by decide +kernel
theorem d_MO_current_15 : decode b_MO_current 15 = .ok (.iconst 1, 1) := by decide +kernel
theorem d_MO_current_16 : decode b_MO_current 16 = .ok (.invokevirtual 39, 3) := by decide +kernel
theorem d_MO_current_19 : decode b_MO_current 19 = .ok (.ireturn, 1) := by decide +kernel
theorem d_MO_current_20 : decode b_MO_current 20 = .ok (.aload_n 0, 1) := by decide +kernel
theorem d_MO_current_21 : decode b_MO_current 21 = .ok (.getfield 29, 3) := by decide +kernel
theorem d_MO_current_24 : decode b_MO_current 24 = .ok (.ifCond .ge 9, 3) := by decide +kernel
theorem d_MO_current_27 : decode b_MO_current 27 = .ok (.aload_n 0, 1) := by decide +kernel
theorem d_MO_current_28 : decode b_MO_current 28 = .ok (.iconst 2, 1) := by decide +kernel
theorem d_MO_current_29 : decode b_MO_current 29 = .ok (.invokevirtual 39, 3) := by decide +kernel
theorem d_MO_current_32 : decode b_MO_current 32 = .ok (.ireturn, 1) := by decide +kernel
theorem d_MO_current_33 : decode b_MO_current 33 = .ok (.iload_n 1, 1) := by decide +kernel
theorem d_MO_current_34 : decode b_MO_current 34 = .ok (.ifCond .ne 15, 3) := by decide +kernel
theorem d_MO_current_37 : decode b_MO_current 37 = .ok (.aload_n 0, 1) := by decide +kernel
theorem d_MO_current_38 : decode b_MO_current 38 = .ok (.getfield 20, 3) := by decide +kernel
theorem d_MO_current_41 : decode b_MO_current 41 = .ok (.aload_n 0, 1) := by decide +kernel
theorem d_MO_current_42 : decode b_MO_current 42 = .ok (.getfield 29, 3) := by decide +kernel
theorem d_MO_current_45 : decode b_MO_current 45 = .ok (.iaload, 1) := by decide +kernel
theorem d_MO_current_46 : decode b_MO_current 46 = .ok (.goto 46, 3) := by decide +kernel
theorem d_MO_current_49 : decode b_MO_current 49 = .ok (.iload_n 1, 1) := by decide +kernel
theorem d_MO_current_50 : decode b_MO_current 50 = .ok (.iconst 1, 1) := by decide +kernel
theorem d_MO_current_51 : decode b_MO_current 51 = .ok (.if_icmp .ne 15, 3) := by decide +kernel
theorem d_MO_current_54 : decode b_MO_current 54 = .ok (.aload_n 0, 1) := by decide +kernel
theorem d_MO_current_55 : decode b_MO_current 55 = .ok (.getfield 23, 3) := by decide +kernel
theorem d_MO_current_58 : decode b_MO_current 58 = .ok (.aload_n 0, 1) := by decide +kernel
theorem d_MO_current_59 : decode b_MO_current 59 = .ok (.getfield 29, 3) := by decide +kernel
theorem d_MO_current_62 : decode b_MO_current 62 = .ok (.iaload, 1) := by decide +kernel
theorem d_MO_current_63 : decode b_MO_current 63 = .ok (.goto 29, 3) := by decide +kernel
theorem d_MO_current_66 : decode b_MO_current 66 = .ok (.iload_n 1, 1) := by decide +kernel
theorem d_MO_current_67 : decode b_MO_current 67 = .ok (.iconst 2, 1) := by decide +kernel
theorem d_MO_current_68 : decode b_MO_current 68 = .ok (.if_icmp .ne 15, 3) := by decide +kernel
theorem d_MO_current_71 : decode b_MO_current 71 = .ok (.aload_n 0, 1) := by decide +kernel
theorem d_MO_current_72 : decode b_MO_current 72 = .ok (.getfield 26, 3) := by decide +kernel
theorem d_MO_current_75 : decode b_MO_current 75 = .ok (.aload_n 0, 1) := by decide +kernel
theorem d_MO_current_76 : decode b_MO_current 76 = .ok (.getfield 29, 3) := by decide +kernel
theorem d_MO_current_79 : decode b_MO_current 79 = .ok (.iaload, 1) := by decide +kernel
theorem d_MO_current_80 : decode b_MO_current 80 = .ok (.goto 12, 3) := by decide +kernel
theorem d_MO_current_83 : decode b_MO_current 83 = .ok (.aload_n 0, 1) := by decide +kernel
theorem d_MO_current_84 : decode b_MO_current 84 = .ok (.getfield 16, 3) := by decide +kernel
theorem d_MO_current_87 : decode b_MO_current 87 = .ok (.aload_n 0, 1) := by decide +kernel
theorem d_MO_current_88 : decode b_MO_current 88 = .ok (.getfield 29, 3) := by decide +kernel
theorem d_MO_current_91 : decode b_MO_current 91 = .ok (.iaload, 1) := by decide +kernel
theorem d_MO_current_92 : decode b_MO_current 92 = .ok (.ireturn, 1) := by decide +kernel
theorem d_MO_word_0 : decode b_MO_word 0 = .ok (.aload_n 0, 1) := by decide +kernel
theorem d_MO_word_1 : decode b_MO_word 1 = .ok (.iconst 0, 1) := by decide +kernel
theorem d_MO_word_2 : decode b_MO_word 2 = .ok (.putfield 33, 3) := by decide +kernel
theorem d_MO_word_5 : decode b_MO_word 5 = .ok (.aload_n 0, 1) := by decide +kernel
theorem d_MO_word_6 : decode b_MO_word 6 = .ok (.getfield 29, 3) := by decide +kernel
theorem d_MO_word_9 : decode b_MO_word 9 = .ok (.ifCond .ge 10, 3) := by decide +kernel
theorem d_MO_word_12 : decode b_MO_word 12 = .ok (.aload_n 0, 1) := by decide +kernel
theorem d_MO_word_13 : decode b_MO_word 13 = .ok (.iconst 1, 1) := by decide +kernel
theorem d_MO_word_14 : decode b_MO_word 14 = .ok (.invokevirtual 39, 3) := by decide +kernel
theorem d_MO_word_17 : decode b_MO_word 17 = .ok (.i2l, 1) := by decide +kernel
theorem d_MO_word_18 : decode b_MO_word 18 = .ok (.lreturn, 1) := by decide +kernel
theorem d_MO_word_19 : decode b_MO_word 19 = .ok (.iload_n 1, 1) := by decide +kernel
theorem d_MO_word_20 : decode b_MO_word 20 = .ok (.ifCond .lt 16, 3) := by decide +kernel
theorem d_MO_word_23 : decode b_MO_word 23 = .ok (.iload_n 1, 1) := by decide +kernel
theorem d_MO_word_24 : decode b_MO_word 24 = .ok (.aload_n 0, 1) := by decide +kernel
theorem d_MO_word_25 : decode b_MO_word 25 = .ok (.getfield 16, 3) := by decide +kernel
theorem d_MO_word_28 : decode b_MO_word 28 = .ok (.aload_n 0, 1) := by decide +kernel
theorem d_MO_word_29 : decode b_MO_word 29 = .ok (.getfield 29, 3) := by decide +kernel
theorem d_MO_word_32 : decode b_MO_word 32 = .ok (.iaload, 1) := by decide +kernel
theorem d_MO_word_33 : decode b_MO_word 33 = .ok (.if_icmp .lt 10, 3) := by decide +kernel
theorem d_MO_word_36 : decode b_MO_word 36 = .ok (.aload_n 0, 1) := by decide +kernel
theorem d_MO_word_37 : decode b_MO_word 37 = .ok (.iconst 2, 1) := by decide +kernel
theorem d_MO_word_38 : decode b_MO_word 38 = .ok (.invokevirtual 39, 3) := by decide +kernel
theorem d_MO_word_41 : decode b_MO_word 41 = .ok (.i2l, 1) := by decide +kernel
theorem d_MO_word_42 : decode b_MO_word 42 = .ok (.lreturn, 1) := by decide +kernel
theorem d_MO_word_43 : decode b_MO_word 43 = .ok (.lconst 0, 1) := by decide +kernel
theorem d_MO_word_44 : decode b_MO_word 44 = .ok (.lstore_n 2, 1) := by decide +kernel
theorem d_MO_word_45 : decode b_MO_word 45 = .ok (.iload_n 1, 1) := by decide +kernel
theorem d_MO_word_46 : decode b_MO_word 46 = .ok (.istore 4, 2) := by decide +kernel
theorem d_MO_word_48 : decode b_MO_word 48 = .ok (.iload 4, 2) := by decide +kernel
theorem d_MO_word_50 : decode b_MO_word 50 = .ok (.iload_n 1, 1) := by decide +kernel
theorem d_MO_word_51 : decode b_MO_word 51 = .ok (.bipush 8, 2) := by decide +kernel
theorem d_MO_word_53 : decode b_MO_word 53 = .ok (.iadd, 1) := by decide +kernel
theorem d_MO_word_54 : decode b_MO_word 54 = .ok (.if_icmp .ge 54, 3) := by decide +kernel
theorem d_MO_word_57 : decode b_MO_word 57 = .ok (.lload_n 2, 1) := by decide +kernel
theorem d_MO_word_58 : decode b_MO_word 58 = .ok (.ldc2_w 62, 3) := by decide +kernel
theorem d_MO_word_61 : decode b_MO_word 61 = .ok (.lmul, 1) := by decide +kernel
theorem d_MO_word_62 : decode b_MO_word 62 = .ok (.iload 4, 2) := by decide +kernel
theorem d_MO_word_64 : decode b_MO_word 64 = .ok (.aload_n 0, 1) := by decide +kernel
theorem d_MO_word_65 : decode b_MO_word 65 = .ok (.getfield 16, 3) := by decide +kernel
theorem d_MO_word_68 : decode b_MO_word 68 = .ok (.aload_n 0, 1) := by decide +kernel
theorem d_MO_word_69 : decode b_MO_word 69 = .ok (.getfield 29, 3) := by decide +kernel
theorem d_MO_word_72 : decode b_MO_word 72 = .ok (.iaload, 1) := by decide +kernel
theorem d_MO_word_73 : decode b_MO_word 73 = .ok (.if_icmp .ge 25, 3) := by decide +kernel
theorem d_MO_word_76 : decode b_MO_word 76 = .ok (.aload_n 0, 1) := by decide +kernel
theorem d_MO_word_77 : decode b_MO_word 77 = .ok (.getfield 13, 3) := by decide +kernel
theorem d_MO_word_80 : decode b_MO_word 80 = .ok (.bipush 40, 2) := by decide +kernel
theorem d_MO_word_82 : decode b_MO_word 82 = .ok (.aload_n 0, 1) := by decide +kernel
theorem d_MO_word_83 : decode b_MO_word 83 = .ok (.getfield 29, 3) := by decide +kernel
theorem d_MO_word_86 : decode b_MO_word 86 = .ok (.imul, 1) := by decide +kernel
theorem d_MO_word_87 : decode b_MO_word 87 = .ok (.iload 4, 2) := by decide +kernel
theorem d_MO_word_89 : decode b_MO_word 89 = .ok (.iadd, 1) := by decide +kernel
theorem d_MO_word_90 : decode b_MO_word 90 = .ok (.baload, 1) := by decide +kernel
theorem d_MO_word_91 : decode b_MO_word 91 = .ok (.sipush 255, 3) := by decide +kernel
theorem d_MO_word_94 : decode b_MO_word 94 = .ok (.iand, 1) := by decide +kernel
theorem d_MO_word_95 : decode b_MO_word 95 = .ok (.goto 4, 3) := by decide +kernel
theorem d_MO_word_98 : decode b_MO_word 98 = .ok (.iconst 0, 1) := by decide +kernel
theorem d_MO_word_99 : decode b_MO_word 99 = .ok (.i2l, 1) := by decide +kernel
theorem d_MO_word_100 : decode b_MO_word 100 = .ok (.ladd, 1) := by decide +kernel
theorem d_MO_word_101 : decode b_MO_word 101 = .ok (.lstore_n 2, 1) := by decide +kernel
theorem d_MO_word_102 : decode b_MO_word 102 = .ok (.iinc 4 1, 3) := by decide +kernel
theorem d_MO_word_105 : decode b_MO_word 105 = .ok (.goto (-57), 3) := by decide +kernel
theorem d_MO_word_108 : decode b_MO_word 108 = .ok (.lload_n 2, 1) := by decide +kernel
theorem d_MO_word_109 : decode b_MO_word 109 = .ok (.lreturn, 1) := by decide +kernel
theorem d_MO_clear_0 : decode b_MO_clear 0 = .ok (.aload_n 0, 1) := by decide +kernel
theorem d_MO_clear_1 : decode b_MO_clear 1 = .ok (.iconst 0, 1) := by decide +kernel
theorem d_MO_clear_2 : decode b_MO_clear 2 = .ok (.putfield 33, 3) := by decide +kernel
theorem d_MO_clear_5 : decode b_MO_clear 5 = .ok (.aload_n 0, 1) := by decide +kernel
theorem d_MO_clear_6 : decode b_MO_clear 6 = .ok (.getfield 43, 3) := by decide +kernel
theorem d_MO_clear_9 : decode b_MO_clear 9 = .ok (.istore_n 1, 1) := by decide +kernel
theorem d_MO_clear_10 : decode b_MO_clear 10 = .ok (.aload_n 0, 1) := by decide +kernel
theorem d_MO_clear_11 : decode b_MO_clear 11 = .ok (.iconst 0, 1) := by decide +kernel
theorem d_MO_clear_12 : decode b_MO_clear 12 = .ok (.putfield 43, 3) := by decide +kernel
theorem d_MO_clear_15 : decode b_MO_clear 15 = .ok (.aload_n 0, 1) := by decide +kernel
theorem d_MO_clear_16 : decode b_MO_clear 16 = .ok (.iconst (-1), 1) := by decide +kernel
theorem d_MO_clear_17 : decode b_MO_clear 17 = .ok (.putfield 29, 3) := by decide +kernel
theorem d_MO_clear_20 : decode b_MO_clear 20 = .ok (.iload_n 1, 1) := by decide +kernel
theorem d_MO_clear_21 : decode b_MO_clear 21 = .ok (.ireturn, 1) := by decide +kernel
theorem d_MO_count_0 : decode b_MO_count 0 = .ok (.aload_n 0, 1) := by decide +kernel
theorem d_MO_count_1 : decode b_MO_count 1 = .ok (.iconst 0, 1) := by decide +kernel
theorem d_MO_count_2 : decode b_MO_count 2 = .ok (.putfield 33, 3) := by decide +kernel
theorem d_MO_count_5 : decode b_MO_count 5 = .ok (.aload_n 0, 1) := by decide +kernel
theorem d_MO_count_6 : decode b_MO_count 6 = .ok (.getfield 43, 3) := by decide +kernel
theorem d_MO_count_9 : decode b_MO_count 9 = .ok (.ireturn, 1) := by decide +kernel
theorem d_LA_law_0 : decode b_LA_law 0 = .ok (.new 8, 3) := by decide +kernel
theorem d_LA_law_3 : decode b_LA_law 3 = .ok (.dup, 1) := by decide +kernel
theorem d_LA_law_4 : decode b_LA_law 4 = .ok (.invokespecial 50, 3) := by decide +kernel
theorem d_LA_law_7 : decode b_LA_law 7 = .ok (.astore_n 1, 1) := by decide +kernel
theorem d_LA_law_8 : decode b_LA_law 8 = .ok (.new 51, 3) := by decide +kernel
theorem d_LA_law_11 : decode b_LA_law 11 = .ok (.dup, 1) := by decide +kernel
theorem d_LA_law_12 : decode b_LA_law 12 = .ok (.invokespecial 53, 3) := by decide +kernel
theorem d_LA_law_15 : decode b_LA_law 15 = .ok (.astore_n 2, 1) := by decide +kernel
theorem d_LA_law_16 : decode b_LA_law 16 = .ok (.iconst 1, 1) := by decide +kernel
theorem d_LA_law_17 : decode b_LA_law 17 = .ok (.newarray .long, 2) := by decide +kernel
theorem d_LA_law_19 : decode b_LA_law 19 = .ok (.astore_n 3, 1) := by decide +kernel
theorem d_LA_law_20 : decode b_LA_law 20 = .ok (.iconst 0, 1) := by decide +kernel
theorem d_LA_law_21 : decode b_LA_law 21 = .ok (.istore 4, 2) := by decide +kernel
theorem d_LA_law_23 : decode b_LA_law 23 = .ok (.iload 4, 2) := by decide +kernel
theorem d_LA_law_25 : decode b_LA_law 25 = .ok (.aload_n 0, 1) := by decide +kernel
theorem d_LA_law_26 : decode b_LA_law 26 = .ok (.arraylength, 1) := by decide +kernel
theorem d_LA_law_27 : decode b_LA_law 27 = .ok (.bipush 6, 2) := by decide +kernel
theorem d_LA_law_29 : decode b_LA_law 29 = .ok (.isub, 1) := by decide +kernel
theorem d_LA_law_30 : decode b_LA_law 30 = .ok (.if_icmp .gt 681, 3) := by decide +kernel
theorem d_LA_law_33 : decode b_LA_law 33 = .ok (.aload_n 0, 1) := by decide +kernel
theorem d_LA_law_34 : decode b_LA_law 34 = .ok (.iload 4, 2) := by decide +kernel
theorem d_LA_law_36 : decode b_LA_law 36 = .ok (.iaload, 1) := by decide +kernel
theorem d_LA_law_37 : decode b_LA_law 37 = .ok (.bipush 15, 2) := by decide +kernel
theorem d_LA_law_39 : decode b_LA_law 39 = .ok (.iand, 1) := by decide +kernel
theorem d_LA_law_40 : decode b_LA_law 40 = .ok (.tableswitch 665 0 10 #[60, 164, 220, 300, 356, 440, 484, 528, 584, 639, 652], 60) := by decide +kernel
theorem d_LA_law_100 : decode b_LA_law 100 = .ok (.aload_n 1, 1) := by decide +kernel
theorem d_LA_law_101 : decode b_LA_law 101 = .ok (.aload_n 0, 1) := by decide +kernel
theorem d_LA_law_102 : decode b_LA_law 102 = .ok (.iload 4, 2) := by decide +kernel
theorem d_LA_law_104 : decode b_LA_law 104 = .ok (.iconst 1, 1) := by decide +kernel
theorem d_LA_law_105 : decode b_LA_law 105 = .ok (.iadd, 1) := by decide +kernel
theorem d_LA_law_106 : decode b_LA_law 106 = .ok (.iaload, 1) := by decide +kernel
theorem d_LA_law_107 : decode b_LA_law 107 = .ok (.aload_n 0, 1) := by decide +kernel
theorem d_LA_law_108 : decode b_LA_law 108 = .ok (.iload 4, 2) := by decide +kernel
theorem d_LA_law_110 : decode b_LA_law 110 = .ok (.iconst 2, 1) := by decide +kernel
theorem d_LA_law_111 : decode b_LA_law 111 = .ok (.iadd, 1) := by decide +kernel
theorem d_LA_law_112 : decode b_LA_law 112 = .ok (.iaload, 1) := by decide +kernel
theorem d_LA_law_113 : decode b_LA_law 113 = .ok (.aload_n 0, 1) := by decide +kernel
theorem d_LA_law_114 : decode b_LA_law 114 = .ok (.iload 4, 2) := by decide +kernel
theorem d_LA_law_116 : decode b_LA_law 116 = .ok (.iconst 3, 1) := by decide +kernel
theorem d_LA_law_117 : decode b_LA_law 117 = .ok (.iadd, 1) := by decide +kernel
theorem d_LA_law_118 : decode b_LA_law 118 = .ok (.iaload, 1) := by decide +kernel
theorem d_LA_law_119 : decode b_LA_law 119 = .ok (.aload_n 0, 1) := by decide +kernel
theorem d_LA_law_120 : decode b_LA_law 120 = .ok (.iload 4, 2) := by decide +kernel
theorem d_LA_law_122 : decode b_LA_law 122 = .ok (.iconst 4, 1) := by decide +kernel
theorem d_LA_law_123 : decode b_LA_law 123 = .ok (.iadd, 1) := by decide +kernel
theorem d_LA_law_124 : decode b_LA_law 124 = .ok (.iaload, 1) := by decide +kernel
theorem d_LA_law_125 : decode b_LA_law 125 = .ok (.aload_n 0, 1) := by decide +kernel
theorem d_LA_law_126 : decode b_LA_law 126 = .ok (.iload 4, 2) := by decide +kernel
theorem d_LA_law_128 : decode b_LA_law 128 = .ok (.iconst 5, 1) := by decide +kernel
theorem d_LA_law_129 : decode b_LA_law 129 = .ok (.iadd, 1) := by decide +kernel
theorem d_LA_law_130 : decode b_LA_law 130 = .ok (.iaload, 1) := by decide +kernel
theorem d_LA_law_131 : decode b_LA_law 131 = .ok (.aload_n 3, 1) := by decide +kernel
theorem d_LA_law_132 : decode b_LA_law 132 = .ok (.invokestatic 54, 3) := by decide +kernel
theorem d_LA_law_135 : decode b_LA_law 135 = .ok (.istore 5, 2) := by decide +kernel
theorem d_LA_law_137 : decode b_LA_law 137 = .ok (.aload_n 2, 1) := by decide +kernel
theorem d_LA_law_138 : decode b_LA_law 138 = .ok (.aload_n 0, 1) := by decide +kernel
theorem d_LA_law_139 : decode b_LA_law 139 = .ok (.iload 4, 2) := by decide +kernel
theorem d_LA_law_141 : decode b_LA_law 141 = .ok (.iconst 1, 1) := by decide +kernel
theorem d_LA_law_142 : decode b_LA_law 142 = .ok (.iadd, 1) := by decide +kernel
theorem d_LA_law_143 : decode b_LA_law 143 = .ok (.iaload, 1) := by decide +kernel
theorem d_LA_law_144 : decode b_LA_law 144 = .ok (.aload_n 0, 1) := by decide +kernel
theorem d_LA_law_145 : decode b_LA_law 145 = .ok (.iload 4, 2) := by decide +kernel
theorem d_LA_law_147 : decode b_LA_law 147 = .ok (.iconst 2, 1) := by decide +kernel
theorem d_LA_law_148 : decode b_LA_law 148 = .ok (.iadd, 1) := by decide +kernel
theorem d_LA_law_149 : decode b_LA_law 149 = .ok (.iaload, 1) := by decide +kernel
theorem d_LA_law_150 : decode b_LA_law 150 = .ok (.aload_n 0, 1) := by decide +kernel
theorem d_LA_law_151 : decode b_LA_law 151 = .ok (.iload 4, 2) := by decide +kernel
theorem d_LA_law_153 : decode b_LA_law 153 = .ok (.iconst 3, 1) := by decide +kernel
theorem d_LA_law_154 : decode b_LA_law 154 = .ok (.iadd, 1) := by decide +kernel
theorem d_LA_law_155 : decode b_LA_law 155 = .ok (.iaload, 1) := by decide +kernel
theorem d_LA_law_156 : decode b_LA_law 156 = .ok (.aload_n 0, 1) := by decide +kernel
theorem d_LA_law_157 : decode b_LA_law 157 = .ok (.iload 4, 2) := by decide +kernel
theorem d_LA_law_159 : decode b_LA_law 159 = .ok (.iconst 4, 1) := by decide +kernel
theorem d_LA_law_160 : decode b_LA_law 160 = .ok (.iadd, 1) := by decide +kernel
theorem d_LA_law_161 : decode b_LA_law 161 = .ok (.iaload, 1) := by decide +kernel
theorem d_LA_law_162 : decode b_LA_law 162 = .ok (.aload_n 0, 1) := by decide +kernel
theorem d_LA_law_163 : decode b_LA_law 163 = .ok (.iload 4, 2) := by decide +kernel
theorem d_LA_law_165 : decode b_LA_law 165 = .ok (.iconst 5, 1) := by decide +kernel
theorem d_LA_law_166 : decode b_LA_law 166 = .ok (.iadd, 1) := by decide +kernel
theorem d_LA_law_167 : decode b_LA_law 167 = .ok (.iaload, 1) := by decide +kernel
theorem d_LA_law_168 : decode b_LA_law 168 = .ok (.invokevirtual 59, 3) := by decide +kernel
theorem d_LA_law_171 : decode b_LA_law 171 = .ok (.istore 6, 2) := by decide +kernel
theorem d_LA_law_173 : decode b_LA_law 173 = .ok (.aload_n 2, 1) := by decide +kernel
theorem d_LA_law_174 : decode b_LA_law 174 = .ok (.invokevirtual 60, 3) := by decide +kernel
theorem d_LA_law_177 : decode b_LA_law 177 = .ok (.iload 5, 2) := by decide +kernel
theorem d_LA_law_179 : decode b_LA_law 179 = .ok (.if_icmp .eq 5, 3) := by decide +kernel
theorem d_LA_law_182 : decode b_LA_law 182 = .ok (.iconst 0, 1) := by decide +kernel
theorem d_LA_law_183 : decode b_LA_law 183 = .ok (.ireturn, 1) := by decide +kernel
theorem d_LA_law_184 : decode b_LA_law 184 = .ok (.iload 5, 2) := by decide +kernel
theorem d_LA_law_186 : decode b_LA_law 186 = .ok (.ifCond .ne 15, 3) := by decide +kernel
theorem d_LA_law_189 : decode b_LA_law 189 = .ok (.aload_n 3, 1) := by decide +kernel
theorem d_LA_law_190 : decode b_LA_law 190 = .ok (.iconst 0, 1) := by decide +kernel
theorem d_LA_law_191 : decode b_LA_law 191 = .ok (.laload, 1) := by decide +kernel
theorem d_LA_law_192 : decode b_LA_law 192 = .ok (.iload 6, 2) := by decide +kernel
theorem d_LA_law_194 : decode b_LA_law 194 = .ok (.i2l, 1) := by decide +kernel
theorem d_LA_law_195 : decode b_LA_law 195 = .ok (.lcmp, 1) := by decide +kernel
theorem d_LA_law_196 : decode b_LA_law 196 = .ok (.ifCond .eq 5, 3) := by decide +kernel
theorem d_LA_law_199 : decode b_LA_law 199 = .ok (.iconst 0, 1) := by decide +kernel
theorem d_LA_law_200 : decode b_LA_law 200 = .ok (.ireturn, 1) := by decide +kernel
theorem d_LA_law_201 : decode b_LA_law 201 = .ok (.goto 504, 3) := by decide +kernel
theorem d_LA_law_204 : decode b_LA_law 204 = .ok (.aload_n 1, 1) := by decide +kernel
theorem d_LA_law_205 : decode b_LA_law 205 = .ok (.aload_n 0, 1) := by decide +kernel
theorem d_LA_law_206 : decode b_LA_law 206 = .ok (.iload 4, 2) := by decide +kernel
theorem d_LA_law_208 : decode b_LA_law 208 = .ok (.iconst 1, 1) := by decide +kernel
theorem d_LA_law_209 : decode b_LA_law 209 = .ok (.iadd, 1) := by decide +kernel
theorem d_LA_law_210 : decode b_LA_law 210 = .ok (.iaload, 1) := by decide +kernel
theorem d_LA_law_211 : decode b_LA_law 211 = .ok (.aload_n 3, 1) := by decide +kernel
theorem d_LA_law_212 : decode b_LA_law 212 = .ok (.invokestatic 63, 3) := by decide +kernel
theorem d_LA_law_215 : decode b_LA_law 215 = .ok (.istore 5, 2) := by decide +kernel
theorem d_LA_law_217 : decode b_LA_law 217 = .ok (.aload_n 2, 1) := by decide +kernel
theorem d_LA_law_218 : decode b_LA_law 218 = .ok (.aload_n 0, 1) := by decide +kernel
theorem d_LA_law_219 : decode b_LA_law 219 = .ok (.iload 4, 2) := by decide +kernel
theorem d_LA_law_221 : decode b_LA_law 221 = .ok (.iconst 1, 1) := by decide +kernel
theorem d_LA_law_222 : decode b_LA_law 222 = .ok (.iadd, 1) := by decide +kernel
theorem d_LA_law_223 : decode b_LA_law 223 = .ok (.iaload, 1) := by decide +kernel
theorem d_LA_law_224 : decode b_LA_law 224 = .ok (.invokevirtual 66, 3) := by decide +kernel
theorem d_LA_law_227 : decode b_LA_law 227 = .ok (.istore 6, 2) := by decide +kernel
theorem d_LA_law_229 : decode b_LA_law 229 = .ok (.aload_n 2, 1) := by decide +kernel
theorem d_LA_law_230 : decode b_LA_law 230 = .ok (.invokevirtual 60, 3) := by decide +kernel
theorem d_LA_law_233 : decode b_LA_law 233 = .ok (.iload 5, 2) := by decide +kernel
theorem d_LA_law_235 : decode b_LA_law 235 = .ok (.if_icmp .eq 5, 3) := by decide +kernel
theorem d_LA_law_238 : decode b_LA_law 238 = .ok (.iconst 0, 1) := by decide +kernel
theorem d_LA_law_239 : decode b_LA_law 239 = .ok (.ireturn, 1) := by decide +kernel
theorem d_LA_law_240 : decode b_LA_law 240 = .ok (.iload 5, 2) := by decide +kernel
theorem d_LA_law_242 : decode b_LA_law 242 = .ok (.ifCond .ne 15, 3) := by decide +kernel
theorem d_LA_law_245 : decode b_LA_law 245 = .ok (.aload_n 3, 1) := by decide +kernel
theorem d_LA_law_246 : decode b_LA_law 246 = .ok (.iconst 0, 1) := by decide +kernel
theorem d_LA_law_247 : decode b_LA_law 247 = .ok (.laload, 1) := by decide +kernel
theorem d_LA_law_248 : decode b_LA_law 248 = .ok (.iload 6, 2) := by decide +kernel
theorem d_LA_law_250 : decode b_LA_law 250 = .ok (.i2l, 1) := by decide +kernel
theorem d_LA_law_251 : decode b_LA_law 251 = .ok (.lcmp, 1) := by decide +kernel
theorem d_LA_law_252 : decode b_LA_law 252 = .ok (.ifCond .eq 5, 3) := by decide +kernel
theorem d_LA_law_255 : decode b_LA_law 255 = .ok (.iconst 0, 1) := by decide +kernel
theorem d_LA_law_256 : decode b_LA_law 256 = .ok (.ireturn, 1) := by decide +kernel
theorem d_LA_law_257 : decode b_LA_law 257 = .ok (.goto 448, 3) := by decide +kernel
theorem d_LA_law_260 : decode b_LA_law 260 = .ok (.aload_n 1, 1) := by decide +kernel
theorem d_LA_law_261 : decode b_LA_law 261 = .ok (.aload_n 0, 1) := by decide +kernel
theorem d_LA_law_262 : decode b_LA_law 262 = .ok (.iload 4, 2) := by decide +kernel
theorem d_LA_law_264 : decode b_LA_law 264 = .ok (.iconst 1, 1) := by decide +kernel
theorem d_LA_law_265 : decode b_LA_law 265 = .ok (.iadd, 1) := by decide +kernel
theorem d_LA_law_266 : decode b_LA_law 266 = .ok (.iaload, 1) := by decide +kernel
theorem d_LA_law_267 : decode b_LA_law 267 = .ok (.aload_n 0, 1) := by decide +kernel
theorem d_LA_law_268 : decode b_LA_law 268 = .ok (.iload 4, 2) := by decide +kernel
theorem d_LA_law_270 : decode b_LA_law 270 = .ok (.iconst 2, 1) := by decide +kernel
theorem d_LA_law_271 : decode b_LA_law 271 = .ok (.iadd, 1) := by decide +kernel
theorem d_LA_law_272 : decode b_LA_law 272 = .ok (.iaload, 1) := by decide +kernel
theorem d_LA_law_273 : decode b_LA_law 273 = .ok (.aload_n 0, 1) := by decide +kernel
theorem d_LA_law_274 : decode b_LA_law 274 = .ok (.iload 4, 2) := by decide +kernel
theorem d_LA_law_276 : decode b_LA_law 276 = .ok (.iconst 3, 1) := by decide +kernel
theorem d_LA_law_277 : decode b_LA_law 277 = .ok (.iadd, 1) := by decide +kernel
theorem d_LA_law_278 : decode b_LA_law 278 = .ok (.iaload, 1) := by decide +kernel
theorem d_LA_law_279 : decode b_LA_law 279 = .ok (.aload_n 3, 1) := by decide +kernel
theorem d_LA_law_280 : decode b_LA_law 280 = .ok (.invokestatic 67, 3) := by decide +kernel
theorem d_LA_law_283 : decode b_LA_law 283 = .ok (.istore 5, 2) := by decide +kernel
theorem d_LA_law_285 : decode b_LA_law 285 = .ok (.aload_n 2, 1) := by decide +kernel
theorem d_LA_law_286 : decode b_LA_law 286 = .ok (.aload_n 0, 1) := by decide +kernel
theorem d_LA_law_287 : decode b_LA_law 287 = .ok (.iload 4, 2) := by decide +kernel
theorem d_LA_law_289 : decode b_LA_law 289 = .ok (.iconst 1, 1) := by decide +kernel
theorem d_LA_law_290 : decode b_LA_law 290 = .ok (.iadd, 1) := by decide +kernel
theorem d_LA_law_291 : decode b_LA_law 291 = .ok (.iaload, 1) := by decide +kernel
theorem d_LA_law_292 : decode b_LA_law 292 = .ok (.aload_n 0, 1) := by decide +kernel
theorem d_LA_law_293 : decode b_LA_law 293 = .ok (.iload 4, 2) := by decide +kernel
theorem d_LA_law_295 : decode b_LA_law 295 = .ok (.iconst 2, 1) := by decide +kernel
theorem d_LA_law_296 : decode b_LA_law 296 = .ok (.iadd, 1) := by decide +kernel
theorem d_LA_law_297 : decode b_LA_law 297 = .ok (.iaload, 1) := by decide +kernel
theorem d_LA_law_298 : decode b_LA_law 298 = .ok (.aload_n 0, 1) := by decide +kernel
theorem d_LA_law_299 : decode b_LA_law 299 = .ok (.iload 4, 2) := by decide +kernel
theorem d_LA_law_301 : decode b_LA_law 301 = .ok (.iconst 3, 1) := by decide +kernel
theorem d_LA_law_302 : decode b_LA_law 302 = .ok (.iadd, 1) := by decide +kernel
theorem d_LA_law_303 : decode b_LA_law 303 = .ok (.iaload, 1) := by decide +kernel
theorem d_LA_law_304 : decode b_LA_law 304 = .ok (.invokevirtual 70, 3) := by decide +kernel
theorem d_LA_law_307 : decode b_LA_law 307 = .ok (.istore 6, 2) := by decide +kernel
theorem d_LA_law_309 : decode b_LA_law 309 = .ok (.aload_n 2, 1) := by decide +kernel
theorem d_LA_law_310 : decode b_LA_law 310 = .ok (.invokevirtual 60, 3) := by decide +kernel
theorem d_LA_law_313 : decode b_LA_law 313 = .ok (.iload 5, 2) := by decide +kernel
theorem d_LA_law_315 : decode b_LA_law 315 = .ok (.if_icmp .eq 5, 3) := by decide +kernel
theorem d_LA_law_318 : decode b_LA_law 318 = .ok (.iconst 0, 1) := by decide +kernel
theorem d_LA_law_319 : decode b_LA_law 319 = .ok (.ireturn, 1) := by decide +kernel
theorem d_LA_law_320 : decode b_LA_law 320 = .ok (.iload 5, 2) := by decide +kernel
theorem d_LA_law_322 : decode b_LA_law 322 = .ok (.ifCond .ne 15, 3) := by decide +kernel
theorem d_LA_law_325 : decode b_LA_law 325 = .ok (.aload_n 3, 1) := by decide +kernel
theorem d_LA_law_326 : decode b_LA_law 326 = .ok (.iconst 0, 1) := by decide +kernel
theorem d_LA_law_327 : decode b_LA_law 327 = .ok (.laload, 1) := by decide +kernel
theorem d_LA_law_328 : decode b_LA_law 328 = .ok (.iload 6, 2) := by decide +kernel
theorem d_LA_law_330 : decode b_LA_law 330 = .ok (.i2l, 1) := by decide +kernel
theorem d_LA_law_331 : decode b_LA_law 331 = .ok (.lcmp, 1) := by decide +kernel
theorem d_LA_law_332 : decode b_LA_law 332 = .ok (.ifCond .eq 5, 3) := by decide +kernel
theorem d_LA_law_335 : decode b_LA_law 335 = .ok (.iconst 0, 1) := by decide +kernel
theorem d_LA_law_336 : decode b_LA_law 336 = .ok (.ireturn, 1) := by decide +kernel
theorem d_LA_law_337 : decode b_LA_law 337 = .ok (.goto 368, 3) := by decide +kernel
theorem d_LA_law_340 : decode b_LA_law 340 = .ok (.aload_n 1, 1) := by decide +kernel
theorem d_LA_law_341 : decode b_LA_law 341 = .ok (.aload_n 0, 1) := by decide +kernel
theorem d_LA_law_342 : decode b_LA_law 342 = .ok (.iload 4, 2) := by decide +kernel
theorem d_LA_law_344 : decode b_LA_law 344 = .ok (.iconst 1, 1) := by decide +kernel
theorem d_LA_law_345 : decode b_LA_law 345 = .ok (.iadd, 1) := by decide +kernel
theorem d_LA_law_346 : decode b_LA_law 346 = .ok (.iaload, 1) := by decide +kernel
theorem d_LA_law_347 : decode b_LA_law 347 = .ok (.aload_n 3, 1) := by decide +kernel
theorem d_LA_law_348 : decode b_LA_law 348 = .ok (.invokestatic 71, 3) := by decide +kernel
theorem d_LA_law_351 : decode b_LA_law 351 = .ok (.istore 5, 2) := by decide +kernel
theorem d_LA_law_353 : decode b_LA_law 353 = .ok (.aload_n 2, 1) := by decide +kernel
theorem d_LA_law_354 : decode b_LA_law 354 = .ok (.aload_n 0, 1) := by decide +kernel
theorem d_LA_law_355 : decode b_LA_law 355 = .ok (.iload 4, 2) := by decide +kernel
theorem d_LA_law_357 : decode b_LA_law 357 = .ok (.iconst 1, 1) := by decide +kernel
theorem d_LA_law_358 : decode b_LA_law 358 = .ok (.iadd, 1) := by decide +kernel
theorem d_LA_law_359 : decode b_LA_law 359 = .ok (.iaload, 1) := by decide +kernel
theorem d_LA_law_360 : decode b_LA_law 360 = .ok (.invokevirtual 73, 3) := by decide +kernel
theorem d_LA_law_363 : decode b_LA_law 363 = .ok (.istore 6, 2) := by decide +kernel
theorem d_LA_law_365 : decode b_LA_law 365 = .ok (.aload_n 2, 1) := by decide +kernel
theorem d_LA_law_366 : decode b_LA_law 366 = .ok (.invokevirtual 60, 3) := by decide +kernel
theorem d_LA_law_369 : decode b_LA_law 369 = .ok (.iload 5, 2) := by decide +kernel
theorem d_LA_law_371 : decode b_LA_law 371 = .ok (.if_icmp .eq 5, 3) := by decide +kernel
theorem d_LA_law_374 : decode b_LA_law 374 = .ok (.iconst 0, 1) := by decide +kernel
theorem d_LA_law_375 : decode b_LA_law 375 = .ok (.ireturn, 1) := by decide +kernel
theorem d_LA_law_376 : decode b_LA_law 376 = .ok (.iload 5, 2) := by decide +kernel
theorem d_LA_law_378 : decode b_LA_law 378 = .ok (.ifCond .ne 15, 3) := by decide +kernel
theorem d_LA_law_381 : decode b_LA_law 381 = .ok (.aload_n 3, 1) := by decide +kernel
theorem d_LA_law_382 : decode b_LA_law 382 = .ok (.iconst 0, 1) := by decide +kernel
theorem d_LA_law_383 : decode b_LA_law 383 = .ok (.laload, 1) := by decide +kernel
theorem d_LA_law_384 : decode b_LA_law 384 = .ok (.iload 6, 2) := by decide +kernel
theorem d_LA_law_386 : decode b_LA_law 386 = .ok (.i2l, 1) := by decide +kernel
theorem d_LA_law_387 : decode b_LA_law 387 = .ok (.lcmp, 1) := by decide +kernel
theorem d_LA_law_388 : decode b_LA_law 388 = .ok (.ifCond .eq 5, 3) := by decide +kernel
theorem d_LA_law_391 : decode b_LA_law 391 = .ok (.iconst 0, 1) := by decide +kernel
theorem d_LA_law_392 : decode b_LA_law 392 = .ok (.ireturn, 1) := by decide +kernel
theorem d_LA_law_393 : decode b_LA_law 393 = .ok (.goto 312, 3) := by decide +kernel
theorem d_LA_law_396 : decode b_LA_law 396 = .ok (.aload_n 1, 1) := by decide +kernel
theorem d_LA_law_397 : decode b_LA_law 397 = .ok (.aload_n 0, 1) := by decide +kernel
theorem d_LA_law_398 : decode b_LA_law 398 = .ok (.iload 4, 2) := by decide +kernel
theorem d_LA_law_400 : decode b_LA_law 400 = .ok (.iconst 1, 1) := by decide +kernel
theorem d_LA_law_401 : decode b_LA_law 401 = .ok (.iadd, 1) := by decide +kernel
theorem d_LA_law_402 : decode b_LA_law 402 = .ok (.iaload, 1) := by decide +kernel
theorem d_LA_law_403 : decode b_LA_law 403 = .ok (.aload_n 0, 1) := by decide +kernel
theorem d_LA_law_404 : decode b_LA_law 404 = .ok (.iload 4, 2) := by decide +kernel
theorem d_LA_law_406 : decode b_LA_law 406 = .ok (.iconst 2, 1) := by decide +kernel
theorem d_LA_law_407 : decode b_LA_law 407 = .ok (.iadd, 1) := by decide +kernel
theorem d_LA_law_408 : decode b_LA_law 408 = .ok (.iaload, 1) := by decide +kernel
theorem d_LA_law_409 : decode b_LA_law 409 = .ok (.ifCond .eq 7, 3) := by decide +kernel
theorem d_LA_law_412 : decode b_LA_law 412 = .ok (.iconst 1, 1) := by decide +kernel
theorem d_LA_law_413 : decode b_LA_law 413 = .ok (.goto 4, 3) := by decide +kernel
theorem d_LA_law_416 : decode b_LA_law 416 = .ok (.iconst 0, 1) := by decide +kernel
theorem d_LA_law_417 : decode b_LA_law 417 = .ok (.aload_n 3, 1) := by decide +kernel
theorem d_LA_law_418 : decode b_LA_law 418 = .ok (.invokestatic 74, 3) := by decide +kernel
theorem d_LA_law_421 : decode b_LA_law 421 = .ok (.istore 5, 2) := by decide +kernel
theorem d_LA_law_423 : decode b_LA_law 423 = .ok (.aload_n 2, 1) := by decide +kernel
theorem d_LA_law_424 : decode b_LA_law 424 = .ok (.aload_n 0, 1) := by decide +kernel
theorem d_LA_law_425 : decode b_LA_law 425 = .ok (.iload 4, 2) := by decide +kernel
theorem d_LA_law_427 : decode b_LA_law 427 = .ok (.iconst 1, 1) := by decide +kernel
theorem d_LA_law_428 : decode b_LA_law 428 = .ok (.iadd, 1) := by decide +kernel
theorem d_LA_law_429 : decode b_LA_law 429 = .ok (.iaload, 1) := by decide +kernel
theorem d_LA_law_430 : decode b_LA_law 430 = .ok (.aload_n 0, 1) := by decide +kernel
theorem d_LA_law_431 : decode b_LA_law 431 = .ok (.iload 4, 2) := by decide +kernel
theorem d_LA_law_433 : decode b_LA_law 433 = .ok (.iconst 2, 1) := by decide +kernel
theorem d_LA_law_434 : decode b_LA_law 434 = .ok (.iadd, 1) := by decide +kernel
theorem d_LA_law_435 : decode b_LA_law 435 = .ok (.iaload, 1) := by decide +kernel
theorem d_LA_law_436 : decode b_LA_law 436 = .ok (.ifCond .eq 7, 3) := by decide +kernel
theorem d_LA_law_439 : decode b_LA_law 439 = .ok (.iconst 1, 1) := by decide +kernel
theorem d_LA_law_440 : decode b_LA_law 440 = .ok (.goto 4, 3) := by decide +kernel
theorem d_LA_law_443 : decode b_LA_law 443 = .ok (.iconst 0, 1) := by decide +kernel
theorem d_LA_law_444 : decode b_LA_law 444 = .ok (.invokevirtual 77, 3) := by decide +kernel
theorem d_LA_law_447 : decode b_LA_law 447 = .ok (.istore 6, 2) := by decide +kernel
theorem d_LA_law_449 : decode b_LA_law 449 = .ok (.aload_n 2, 1) := by decide +kernel
theorem d_LA_law_450 : decode b_LA_law 450 = .ok (.invokevirtual 60, 3) := by decide +kernel
theorem d_LA_law_453 : decode b_LA_law 453 = .ok (.iload 5, 2) := by decide +kernel
theorem d_LA_law_455 : decode b_LA_law 455 = .ok (.if_icmp .eq 5, 3) := by decide +kernel
theorem d_LA_law_458 : decode b_LA_law 458 = .ok (.iconst 0, 1) := by decide +kernel
theorem d_LA_law_459 : decode b_LA_law 459 = .ok (.ireturn, 1) := by decide +kernel
theorem d_LA_law_460 : decode b_LA_law 460 = .ok (.iload 5, 2) := by decide +kernel
theorem d_LA_law_462 : decode b_LA_law 462 = .ok (.ifCond .ne 15, 3) := by decide +kernel
theorem d_LA_law_465 : decode b_LA_law 465 = .ok (.aload_n 3, 1) := by decide +kernel
theorem d_LA_law_466 : decode b_LA_law 466 = .ok (.iconst 0, 1) := by decide +kernel
theorem d_LA_law_467 : decode b_LA_law 467 = .ok (.laload, 1) := by decide +kernel
theorem d_LA_law_468 : decode b_LA_law 468 = .ok (.iload 6, 2) := by decide +kernel
theorem d_LA_law_470 : decode b_LA_law 470 = .ok (.i2l, 1) := by decide +kernel
theorem d_LA_law_471 : decode b_LA_law 471 = .ok (.lcmp, 1) := by decide +kernel
theorem d_LA_law_472 : decode b_LA_law 472 = .ok (.ifCond .eq 5, 3) := by decide +kernel
theorem d_LA_law_475 : decode b_LA_law 475 = .ok (.iconst 0, 1) := by decide +kernel
theorem d_LA_law_476 : decode b_LA_law 476 = .ok (.ireturn, 1) := by decide +kernel
theorem d_LA_law_477 : decode b_LA_law 477 = .ok (.goto 228, 3) := by decide +kernel
theorem d_LA_law_480 : decode b_LA_law 480 = .ok (.aload_n 1, 1) := by decide +kernel
theorem d_LA_law_481 : decode b_LA_law 481 = .ok (.aload_n 3, 1) := by decide +kernel
theorem d_LA_law_482 : decode b_LA_law 482 = .ok (.invokestatic 78, 3) := by decide +kernel
theorem d_LA_law_485 : decode b_LA_law 485 = .ok (.istore 5, 2) := by decide +kernel
theorem d_LA_law_487 : decode b_LA_law 487 = .ok (.aload_n 2, 1) := by decide +kernel
theorem d_LA_law_488 : decode b_LA_law 488 = .ok (.invokevirtual 81, 3) := by decide +kernel
theorem d_LA_law_491 : decode b_LA_law 491 = .ok (.istore 6, 2) := by decide +kernel
theorem d_LA_law_493 : decode b_LA_law 493 = .ok (.aload_n 2, 1) := by decide +kernel
theorem d_LA_law_494 : decode b_LA_law 494 = .ok (.invokevirtual 60, 3) := by decide +kernel
theorem d_LA_law_497 : decode b_LA_law 497 = .ok (.iload 5, 2) := by decide +kernel
theorem d_LA_law_499 : decode b_LA_law 499 = .ok (.if_icmp .eq 5, 3) := by decide +kernel
theorem d_LA_law_502 : decode b_LA_law 502 = .ok (.iconst 0, 1) := by decide +kernel
theorem d_LA_law_503 : decode b_LA_law 503 = .ok (.ireturn, 1) := by decide +kernel
theorem d_LA_law_504 : decode b_LA_law 504 = .ok (.iload 5, 2) := by decide +kernel
theorem d_LA_law_506 : decode b_LA_law 506 = .ok (.ifCond .ne 15, 3) := by decide +kernel
theorem d_LA_law_509 : decode b_LA_law 509 = .ok (.aload_n 3, 1) := by decide +kernel
theorem d_LA_law_510 : decode b_LA_law 510 = .ok (.iconst 0, 1) := by decide +kernel
theorem d_LA_law_511 : decode b_LA_law 511 = .ok (.laload, 1) := by decide +kernel
theorem d_LA_law_512 : decode b_LA_law 512 = .ok (.iload 6, 2) := by decide +kernel
theorem d_LA_law_514 : decode b_LA_law 514 = .ok (.i2l, 1) := by decide +kernel
theorem d_LA_law_515 : decode b_LA_law 515 = .ok (.lcmp, 1) := by decide +kernel
theorem d_LA_law_516 : decode b_LA_law 516 = .ok (.ifCond .eq 5, 3) := by decide +kernel
theorem d_LA_law_519 : decode b_LA_law 519 = .ok (.iconst 0, 1) := by decide +kernel
theorem d_LA_law_520 : decode b_LA_law 520 = .ok (.ireturn, 1) := by decide +kernel
theorem d_LA_law_521 : decode b_LA_law 521 = .ok (.goto 184, 3) := by decide +kernel
theorem d_LA_law_524 : decode b_LA_law 524 = .ok (.aload_n 1, 1) := by decide +kernel
theorem d_LA_law_525 : decode b_LA_law 525 = .ok (.aload_n 3, 1) := by decide +kernel
theorem d_LA_law_526 : decode b_LA_law 526 = .ok (.invokestatic 82, 3) := by decide +kernel
theorem d_LA_law_529 : decode b_LA_law 529 = .ok (.istore 5, 2) := by decide +kernel
theorem d_LA_law_531 : decode b_LA_law 531 = .ok (.aload_n 2, 1) := by decide +kernel
theorem d_LA_law_532 : decode b_LA_law 532 = .ok (.invokevirtual 84, 3) := by decide +kernel
theorem d_LA_law_535 : decode b_LA_law 535 = .ok (.istore 6, 2) := by decide +kernel
theorem d_LA_law_537 : decode b_LA_law 537 = .ok (.aload_n 2, 1) := by decide +kernel
theorem d_LA_law_538 : decode b_LA_law 538 = .ok (.invokevirtual 60, 3) := by decide +kernel
theorem d_LA_law_541 : decode b_LA_law 541 = .ok (.iload 5, 2) := by decide +kernel
theorem d_LA_law_543 : decode b_LA_law 543 = .ok (.if_icmp .eq 5, 3) := by decide +kernel
theorem d_LA_law_546 : decode b_LA_law 546 = .ok (.iconst 0, 1) := by decide +kernel
theorem d_LA_law_547 : decode b_LA_law 547 = .ok (.ireturn, 1) := by decide +kernel
theorem d_LA_law_548 : decode b_LA_law 548 = .ok (.iload 5, 2) := by decide +kernel
theorem d_LA_law_550 : decode b_LA_law 550 = .ok (.ifCond .ne 15, 3) := by decide +kernel
theorem d_LA_law_553 : decode b_LA_law 553 = .ok (.aload_n 3, 1) := by decide +kernel
theorem d_LA_law_554 : decode b_LA_law 554 = .ok (.iconst 0, 1) := by decide +kernel
theorem d_LA_law_555 : decode b_LA_law 555 = .ok (.laload, 1) := by decide +kernel
theorem d_LA_law_556 : decode b_LA_law 556 = .ok (.iload 6, 2) := by decide +kernel
theorem d_LA_law_558 : decode b_LA_law 558 = .ok (.i2l, 1) := by decide +kernel
theorem d_LA_law_559 : decode b_LA_law 559 = .ok (.lcmp, 1) := by decide +kernel
theorem d_LA_law_560 : decode b_LA_law 560 = .ok (.ifCond .eq 5, 3) := by decide +kernel
theorem d_LA_law_563 : decode b_LA_law 563 = .ok (.iconst 0, 1) := by decide +kernel
theorem d_LA_law_564 : decode b_LA_law 564 = .ok (.ireturn, 1) := by decide +kernel
theorem d_LA_law_565 : decode b_LA_law 565 = .ok (.goto 140, 3) := by decide +kernel
theorem d_LA_law_568 : decode b_LA_law 568 = .ok (.aload_n 1, 1) := by decide +kernel
theorem d_LA_law_569 : decode b_LA_law 569 = .ok (.aload_n 0, 1) := by decide +kernel
theorem d_LA_law_570 : decode b_LA_law 570 = .ok (.iload 4, 2) := by decide +kernel
theorem d_LA_law_572 : decode b_LA_law 572 = .ok (.iconst 1, 1) := by decide +kernel
theorem d_LA_law_573 : decode b_LA_law 573 = .ok (.iadd, 1) := by decide +kernel
theorem d_LA_law_574 : decode b_LA_law 574 = .ok (.iaload, 1) := by decide +kernel
theorem d_LA_law_575 : decode b_LA_law 575 = .ok (.aload_n 3, 1) := by decide +kernel
theorem d_LA_law_576 : decode b_LA_law 576 = .ok (.invokestatic 85, 3) := by decide +kernel
theorem d_LA_law_579 : decode b_LA_law 579 = .ok (.istore 5, 2) := by decide +kernel
theorem d_LA_law_581 : decode b_LA_law 581 = .ok (.aload_n 2, 1) := by decide +kernel
theorem d_LA_law_582 : decode b_LA_law 582 = .ok (.aload_n 0, 1) := by decide +kernel
theorem d_LA_law_583 : decode b_LA_law 583 = .ok (.iload 4, 2) := by decide +kernel
theorem d_LA_law_585 : decode b_LA_law 585 = .ok (.iconst 1, 1) := by decide +kernel
theorem d_LA_law_586 : decode b_LA_law 586 = .ok (.iadd, 1) := by decide +kernel
theorem d_LA_law_587 : decode b_LA_law 587 = .ok (.iaload, 1) := by decide +kernel
theorem d_LA_law_588 : decode b_LA_law 588 = .ok (.invokevirtual 87, 3) := by decide +kernel
theorem d_LA_law_591 : decode b_LA_law 591 = .ok (.istore 6, 2) := by decide +kernel
theorem d_LA_law_593 : decode b_LA_law 593 = .ok (.aload_n 2, 1) := by decide +kernel
theorem d_LA_law_594 : decode b_LA_law 594 = .ok (.invokevirtual 60, 3) := by decide +kernel
theorem d_LA_law_597 : decode b_LA_law 597 = .ok (.iload 5, 2) := by decide +kernel
theorem d_LA_law_599 : decode b_LA_law 599 = .ok (.if_icmp .eq 5, 3) := by decide +kernel
theorem d_LA_law_602 : decode b_LA_law 602 = .ok (.iconst 0, 1) := by decide +kernel
theorem d_LA_law_603 : decode b_LA_law 603 = .ok (.ireturn, 1) := by decide +kernel
theorem d_LA_law_604 : decode b_LA_law 604 = .ok (.iload 5, 2) := by decide +kernel
theorem d_LA_law_606 : decode b_LA_law 606 = .ok (.ifCond .ne 15, 3) := by decide +kernel
theorem d_LA_law_609 : decode b_LA_law 609 = .ok (.aload_n 3, 1) := by decide +kernel
theorem d_LA_law_610 : decode b_LA_law 610 = .ok (.iconst 0, 1) := by decide +kernel
theorem d_LA_law_611 : decode b_LA_law 611 = .ok (.laload, 1) := by decide +kernel
theorem d_LA_law_612 : decode b_LA_law 612 = .ok (.iload 6, 2) := by decide +kernel
theorem d_LA_law_614 : decode b_LA_law 614 = .ok (.i2l, 1) := by decide +kernel
theorem d_LA_law_615 : decode b_LA_law 615 = .ok (.lcmp, 1) := by decide +kernel
theorem d_LA_law_616 : decode b_LA_law 616 = .ok (.ifCond .eq 5, 3) := by decide +kernel
theorem d_LA_law_619 : decode b_LA_law 619 = .ok (.iconst 0, 1) := by decide +kernel
theorem d_LA_law_620 : decode b_LA_law 620 = .ok (.ireturn, 1) := by decide +kernel
theorem d_LA_law_621 : decode b_LA_law 621 = .ok (.goto 84, 3) := by decide +kernel
theorem d_LA_law_624 : decode b_LA_law 624 = .ok (.aload_n 1, 1) := by decide +kernel
theorem d_LA_law_625 : decode b_LA_law 625 = .ok (.aload_n 0, 1) := by decide +kernel
theorem d_LA_law_626 : decode b_LA_law 626 = .ok (.iload 4, 2) := by decide +kernel
theorem d_LA_law_628 : decode b_LA_law 628 = .ok (.iconst 1, 1) := by decide +kernel
theorem d_LA_law_629 : decode b_LA_law 629 = .ok (.iadd, 1) := by decide +kernel
theorem d_LA_law_630 : decode b_LA_law 630 = .ok (.iaload, 1) := by decide +kernel
theorem d_LA_law_631 : decode b_LA_law 631 = .ok (.aload_n 3, 1) := by decide +kernel
theorem d_LA_law_632 : decode b_LA_law 632 = .ok (.invokestatic 88, 3) := by decide +kernel
theorem d_LA_law_635 : decode b_LA_law 635 = .ok (.istore 5, 2) := by decide +kernel
theorem d_LA_law_637 : decode b_LA_law 637 = .ok (.aload_n 2, 1) := by decide +kernel
theorem d_LA_law_638 : decode b_LA_law 638 = .ok (.aload_n 0, 1) := by decide +kernel
theorem d_LA_law_639 : decode b_LA_law 639 = .ok (.iload 4, 2) := by decide +kernel
theorem d_LA_law_641 : decode b_LA_law 641 = .ok (.iconst 1, 1) := by decide +kernel
theorem d_LA_law_642 : decode b_LA_law 642 = .ok (.iadd, 1) := by decide +kernel
theorem d_LA_law_643 : decode b_LA_law 643 = .ok (.iaload, 1) := by decide +kernel
theorem d_LA_law_644 : decode b_LA_law 644 = .ok (.invokevirtual 90, 3) := by decide +kernel
theorem d_LA_law_647 : decode b_LA_law 647 = .ok (.lstore 6, 2) := by decide +kernel
theorem d_LA_law_649 : decode b_LA_law 649 = .ok (.aload_n 2, 1) := by decide +kernel
theorem d_LA_law_650 : decode b_LA_law 650 = .ok (.invokevirtual 60, 3) := by decide +kernel
theorem d_LA_law_653 : decode b_LA_law 653 = .ok (.iload 5, 2) := by decide +kernel
theorem d_LA_law_655 : decode b_LA_law 655 = .ok (.if_icmp .eq 5, 3) := by decide +kernel
theorem d_LA_law_658 : decode b_LA_law 658 = .ok (.iconst 0, 1) := by decide +kernel
theorem d_LA_law_659 : decode b_LA_law 659 = .ok (.ireturn, 1) := by decide +kernel
theorem d_LA_law_660 : decode b_LA_law 660 = .ok (.iload 5, 2) := by decide +kernel
theorem d_LA_law_662 : decode b_LA_law 662 = .ok (.ifCond .ne 14, 3) := by decide +kernel
theorem d_LA_law_665 : decode b_LA_law 665 = .ok (.aload_n 3, 1) := by decide +kernel
theorem d_LA_law_666 : decode b_LA_law 666 = .ok (.iconst 0, 1) := by decide +kernel
theorem d_LA_law_667 : decode b_LA_law 667 = .ok (.laload, 1) := by decide +kernel
theorem d_LA_law_668 : decode b_LA_law 668 = .ok (.lload 6, 2) := by decide +kernel
theorem d_LA_law_670 : decode b_LA_law 670 = .ok (.lcmp, 1) := by decide +kernel
theorem d_LA_law_671 : decode b_LA_law 671 = .ok (.ifCond .eq 5, 3) := by decide +kernel
theorem d_LA_law_674 : decode b_LA_law 674 = .ok (.iconst 0, 1) := by decide +kernel
theorem d_LA_law_675 : decode b_LA_law 675 = .ok (.ireturn, 1) := by decide +kernel
theorem d_LA_law_676 : decode b_LA_law 676 = .ok (.goto 29, 3) := by decide +kernel
theorem d_LA_law_679 : decode b_LA_law 679 = .ok (.aload_n 1, 1) := by decide +kernel
theorem d_LA_law_680 : decode b_LA_law 680 = .ok (.invokevirtual 91, 3) := by decide +kernel
theorem d_LA_law_683 : decode b_LA_law 683 = .ok (.aload_n 2, 1) := by decide +kernel
theorem d_LA_law_684 : decode b_LA_law 684 = .ok (.invokevirtual 94, 3) := by decide +kernel
theorem d_LA_law_687 : decode b_LA_law 687 = .ok (.if_icmp .eq 18, 3) := by decide +kernel
theorem d_LA_law_690 : decode b_LA_law 690 = .ok (.iconst 0, 1) := by decide +kernel
theorem d_LA_law_691 : decode b_LA_law 691 = .ok (.ireturn, 1) := by decide +kernel
theorem d_LA_law_692 : decode b_LA_law 692 = .ok (.aload_n 1, 1) := by decide +kernel
theorem d_LA_law_693 : decode b_LA_law 693 = .ok (.invokevirtual 95, 3) := by decide +kernel
theorem d_LA_law_696 : decode b_LA_law 696 = .ok (.aload_n 2, 1) := by decide +kernel
theorem d_LA_law_697 : decode b_LA_law 697 = .ok (.invokevirtual 98, 3) := by decide +kernel
theorem d_LA_law_700 : decode b_LA_law 700 = .ok (.if_icmp .eq 5, 3) := by decide +kernel
theorem d_LA_law_703 : decode b_LA_law 703 = .ok (.iconst 0, 1) := by decide +kernel
theorem d_LA_law_704 : decode b_LA_law 704 = .ok (.ireturn, 1) := by decide +kernel
theorem d_LA_law_705 : decode b_LA_law 705 = .ok (.iinc 4 6, 3) := by decide +kernel
theorem d_LA_law_708 : decode b_LA_law 708 = .ok (.goto (-685), 3) := by decide +kernel
theorem d_LA_law_711 : decode b_LA_law 711 = .ok (.iconst 1, 1) := by decide +kernel
theorem d_LA_law_712 : decode b_LA_law 712 = .ok (.ireturn, 1) := by decide +kernel
end
section
/-! ===== worlds as maps: a judgement jj, and a row an instruction ===== -/
abbrev mp_T : Type := Nat → Option va_E
def mp_P (D : va_G) (cl : List vw_C) (M : mp_T) (H : Heap) : Prop := ∀ (a : Nat) (e : va_E), M a = some e → va_at D cl (a, e) H
def mp_U (M : mp_T) (a : Nat) (e : va_E) : mp_T := fun b => if b = a then some e else M b
theorem mp_Us (M : mp_T) (a : Nat) (e : va_E) : mp_U M a e a = some e := if_pos rfl
theorem mp_Un {M : mp_T} {a b : Nat} {e : va_E} (h : b ≠ a) : mp_U M a e b = M b := if_neg h
theorem mp_lt {D : va_G} {cl : List vw_C} {M : mp_T} {H : Heap} (h : mp_P D cl M H) {a : Nat} {e : va_E} (ha : M a = some e) : a < H.size := (h a e ha).lt
theorem mp_set {D : va_G} {cl : List vw_C} {M : mp_T} {H H1 : Heap} {a : Nat} {e : va_E} (h : mp_P D cl M H) (oq : ∀ q : Nat, q ≠ a → H1[q]? = H[q]?) (he : va_at D cl (a, e) H1) : mp_P D cl (mp_U M a e) H1 := by
  intro b e' hb
  by_cases hba : b = a
  · subst hba
    rw [mp_Us] at hb
    cases hb
    exact he
  · rw [mp_Un hba] at hb
    exact (h b e' hb).kept (oq b hba)
theorem mp_new {D : va_G} {cl : List vw_C} {M : mp_T} {H H1 : Heap} {e : va_E} (h : mp_P D cl M H) (oq : ∀ q : Nat, q < H.size → H1[q]? = H[q]?) (he : va_at D cl (H.size, e) H1) : mp_P D cl (mp_U M H.size e) H1 := by
  intro b e' hb
  by_cases hba : b = H.size
  · subst hba
    rw [mp_Us] at hb
    cases hb
    exact he
  · rw [mp_Un hba] at hb
    exact (h b e' hb).kept (oq b (mp_lt h hb))
theorem mp_kept {D : va_G} {cl : List vw_C} {M : mp_T} {H H1 : Heap} (h : mp_P D cl M H) (oq : ∀ q : Nat, q < H.size → H1[q]? = H[q]?) : mp_P D cl M H1 := fun a e ha => (h a e ha).kept (oq a (mp_lt h ha))
theorem mp_one {D : va_G} {cl : List vw_C} {M : mp_T} {H : Heap} (h : mp_P D cl M H) {a : Nat} {e : va_E} (ha : M a = some e) : va_P D cl [(a, e)] H := by
  intro k q hk
  cases k with
  | zero =>
    cases hk
    exact h a e ha
  | succ k => simp at hk
/-- what is fixed for a whole run: the classes' numbers and slots; the array classes of byte, int, long; the first address that is ours, the empty key's address -/
abbrev gv_T : Type := va_G × (ClassId × ClassId × ClassId) × (Nat × Nat)
def ge_A (G : gv_T) : Nat → Prop := fun q => G.2.2.1 ≤ q
def gk_K (G : gv_T) (U : State) : Prop := va_K G.1 cls_L [(G.2.1.1, .byte), (G.2.1.2.1, .int), (G.2.1.2.2, .long)] U
theorem gk_moved {G : gv_T} {u U : State} (hvm : u.vm.Alike U.vm) (h : gk_K G u) : gk_K G U := va_K.moved hvm h
abbrev xn_IA : String := "java/lang/IllegalArgumentException"
abbrev xn_IS : String := "java/lang/IllegalStateException"
abbrev xn_IO : String := "java/lang/IndexOutOfBoundsException"
abbrev xn_NS : String := "java/util/NoSuchElementException"
def dc_M : List MethodName := [⟨"java/lang/RuntimeException", "<init>", "()V"⟩, ⟨"java/lang/RuntimeException", "<init>", "(Ljava/lang/String;)V"⟩, ⟨"java/lang/Exception", "<init>", "()V"⟩, ⟨"java/lang/Exception", "<init>", "(Ljava/lang/String;)V"⟩, ⟨"java/lang/Throwable", "<init>", "()V"⟩, ⟨"java/lang/Throwable", "<init>", "(Ljava/lang/String;)V"⟩]
/-- the statics that are read, and which exceptions pass which handlers -/
def sx_S (G : gv_T) (U : State) (H : Heap) : Prop :=
  vx_Zq Bundle.tN "UNASSIGNED_STACK" Bundle.steD (ge_A G) U H ∧ vx_Zq Bundle.tN "SUPPRESSED_SENTINEL" Bundle.listD (ge_A G) U H ∧ va_Z "MomentTree" "BEFORE_ALL_KEYS" "[B" (.ref G.2.2.2) (ge_A G) U H ∧ va_T .byte G.2.2.2 0 (fun _ => .null) (ge_A G) U H ∧
  va_Nc xn_IS xn_IA U ∧ va_Nc xn_NS xn_IA U ∧ va_Nc xn_IO xn_NS U ∧ va_Nw (.castable xn_IA xn_IA) U ∧ va_Nw (.castable xn_IS xn_IS) U ∧ va_Nw (.castable xn_IO xn_IO) U ∧ va_Nw (.castable xn_NS xn_NS) U ∧ ∀ x ∈ dc_M, va_Nw (.declares x) U
theorem nw_de {x : MethodName} {s U : State} (h : s.vm.Alike U.vm) (hZ : va_Nw (.declares x) s) : va_Nw (.declares x) U := va_tabs rfl (rfl : (s.setVm U.vm).vm = U.vm) (by rw [Cond.declares_setVm h]; exact hZ)
theorem nw_ca {C T : String} {s U : State} (h : s.vm.Alike U.vm) (hZ : va_Nw (.castable C T) s) : va_Nw (.castable C T) U := va_tabs rfl (rfl : (s.setVm U.vm).vm = U.vm) (by rw [Cond.castable_setVm h]; exact hZ)
theorem sx_moved {G : gv_T} {u U : State} {H : Heap} (hvm : u.vm.Alike U.vm) (h : sx_S G u H) : sx_S G U H := by
  obtain ⟨h1, h2, h3, h4, h5, h6, h7, h8, h9, h10, h11, h12⟩ := h
  exact ⟨vx_Zq.moved hvm h1, vx_Zq.moved hvm h2, va_Z.moved hvm h3, va_T.moved hvm h4, va_Nc.moved hvm h5, va_Nc.moved hvm h6, va_Nc.moved hvm h7, nw_ca hvm h8, nw_ca hvm h9, nw_ca hvm h10, nw_ca hvm h11, fun x hx => nw_de hvm (h12 x hx)⟩
theorem sx_kept {G : gv_T} {U : State} {H H1 : Heap} (h : sx_S G U H) (hq : ∀ a : Nat, a < H.size → ¬ ge_A G a → H1[a]? = H[a]?) : sx_S G U H1 := by
  obtain ⟨h1, h2, h3, h4, h5⟩ := h
  exact ⟨vx_Zq.kept h1 hq, vx_Zq.kept h2 hq, va_Z.kept h3 hq, va_T.kept h4 hq, h5⟩
/-- a state that holds the world M -/
def wd_W (G : gv_T) (M : mp_T) (U : State) : Prop := G.2.2.1 ≤ U.heap.size ∧ mp_P G.1 cls_L M U.heap ∧ gk_K G U ∧ sx_S G U U.heap
def cq_Q (G : gv_T) (po : Option Value → mp_T → Prop) : Array Value → State → Outcome → State → Prop := fun _ st oc t => (∃ (v : Option Value) (M' : mp_T), oc = .returned v ∧ po v M' ∧ wd_W G M' t) ∧ va_F (ge_A G) st t
def cx_X (G : gv_T) (px : String → mp_T → Prop) : String → State → State → Prop := fun E st t => ∃ M' : mp_T, px E M' ∧ wd_W G M' t ∧ va_F (ge_A G) st t
/-- a method's contract: with these arguments, in the world M, it answers v and leaves M' with 'po v M'', or throws E and leaves M' with 'px E M'' -/
def ct_C (l : Launch) (G : gv_T) (y : MethodName) (cc : ByteArray) (maxL : Nat) (ret : Option FieldType) (rm : Room) (av : List Value) (M : mp_T) (po : Option Value → mp_T → Prop) (px : String → mp_T → Prop) : Prop :=
  vx_Met l y (Cond.code y cc maxL ret :: tb_ws) rm (va_Pc av (wd_W G M)) (cq_Q G po) (cx_X G px) rm.cells rm.slots (ge_A G)
def ct_H (l : Launch) (G : gv_T) (y : MethodName) (cc : ByteArray) (maxL : Nat) (ret : Option FieldType) (hh : List (Nat × Nat × Nat × Nat)) (rm : Room) (av : List Value) (M : mp_T) (po : Option Value → mp_T → Prop) (px : String → mp_T → Prop) : Prop :=
  vx_Met l y (Cond.codeWith y cc maxL ret hh :: tb_ws) rm (va_Pc av (wd_W G M)) (cq_Q G po) (cx_X G px) rm.cells rm.slots (ge_A G)
abbrev jq_Q (below : List Frame) (G : gv_T) (po : Option Value → mp_T → Prop) (px : String → mp_T → Prop) (args : Array Value) (s : State) (rm : Room) : State → Prop := vx_MQ below (cq_Q G po) (cx_X G px) args s rm.cells rm.slots (ge_A G)
/-- what is fixed in a method's body -/
def jf (p : Program) (l : Launch) (s : State) (m : MethodId) (args : Array Value) (meth : Method) (c : Code) (G : gv_T) (own : String) (cc : ByteArray) (nL : Nat) (tab : List ExceptionTableEntry) : Prop :=
  p.tables.exec = Jvm.exec ∧ c.code = cc ∧ c.maxLocals = nL ∧ s.vm.findClass own = some m.cls ∧ (∀ w ∈ tb_ws, w.before args s = true) ∧ gk_K G s ∧ G.2.2.1 ≤ s.heap.size ∧ sx_S G s s.heap ∧ meth.locks = false ∧ l.stackTraces = false ∧ c.exceptionTable.toList = tab
/-- the machine at pc with these locals and this stack, in any heap that holds the world M, comes to Q -/
def jj (p : Program) (l : Launch) (e : Env) (R : Room) (s : State) (m : MethodId) (args : Array Value) (below : List Frame) (meth : Method) (c : Code) (G : gv_T) (nL : Nat) (Q : State → Prop) (M : mp_T) (k n : Nat) (lv : List (Nat × Value)) (pc : Nat) (st : List Value) : Prop :=
  ∀ (H : Heap) (locs : List Loc) (ls : Array Slot), mp_P G.1 cls_L M H → va_S (ge_A G) s.heap H locs → lv_has ls nL lv → W p l e R s m args below meth c H locs k n Q (F0 m pc ls st)
/-- .. with an exception of the subject E thrown -/
def jx (p : Program) (l : Launch) (e : Env) (R : Room) (s : State) (m : MethodId) (args : Array Value) (below : List Frame) (meth : Method) (c : Code) (G : gv_T) (nL : Nat) (Q : State → Prop) (M : mp_T) (k n : Nat) (lv : List (Nat × Value)) (pc : Nat) (st : List Value) (E : String) : Prop :=
  ∀ (H : Heap) (locs : List Loc) (ls : Array Slot) (q : Addr) (ce : Cell), mp_P G.1 cls_L M H → va_S (ge_A G) s.heap H locs → lv_has ls nL lv → H[q]? = some ce → ce.vm = .none → s.vm.findClass E = some ce.cls → vx_W p l e R s m args below meth c H locs k n Q (F0 m pc ls st) q
section JJ
variable {p : Program} {l : Launch} {e : Env} {R : Room} {s : State} {m : MethodId} {args : Array Value} {below : List Frame} {meth : Method} {c : Code} {Q : State → Prop} {G : gv_T} {own : String} {cc : ByteArray} {nL : Nat} {tab : List ExceptionTableEntry} {M : mp_T} {k n : Nat} {lv : List (Nat × Value)} {pc : Nat} {st : List Value}
theorem lk_pl {lv : List (Nat × Value)} {i : Nat} {v : Value} (hq : lv.lookup i = some v) : ∃ q : Nat, lv[q]? = some (i, v) := by
  induction lv with
  | nil => cases hq
  | cons z t ih =>
    obtain ⟨j, w⟩ := z
    rw [List.lookup_cons] at hq
    by_cases hj : i = j
    · subst hj
      simp at hq
      subst hq
      exact ⟨0, rfl⟩
    · have hb : (i == j) = false := by simpa using hj
      rw [hb] at hq
      obtain ⟨q, h⟩ := ih hq
      exact ⟨q + 1, h⟩
theorem lk_at {ls : Array Slot} {nL : Nat} {lv : List (Nat × Value)} {i : Nat} {v : Value} (h : lv_has ls nL lv) (hq : lv.lookup i = some v) : ls[i]? = some (.val v) := by
  refine h.2.2 (i, v) ?_
  clear h
  induction lv with
  | nil => cases hq
  | cons q t ih =>
    obtain ⟨j, w⟩ := q
    rw [List.lookup_cons] at hq
    by_cases hj : i = j
    · subst hj
      simp at hq
      subst hq
      exact List.mem_cons_self
    · have hb : (i == j) = false := by simpa using hj
      rw [hb] at hq
      exact List.mem_cons_of_mem _ (ih hq)
theorem jf_x (F : jf p l s m args meth c G own cc nL tab) : p.tables.exec = Jvm.exec := F.1
theorem jf_b (F : jf p l s m args meth c G own cc nL tab) : c.code = cc := F.2.1
theorem jf_ml (F : jf p l s m args meth c G own cc nL tab) : c.maxLocals = nL := F.2.2.1
theorem jf_own (F : jf p l s m args meth c G own cc nL tab) : s.vm.findClass own = some m.cls := F.2.2.2.1
theorem jf_ts (F : jf p l s m args meth c G own cc nL tab) : ∀ w ∈ tb_ws, w.before args s = true := F.2.2.2.2.1
theorem jf_k (F : jf p l s m args meth c G own cc nL tab) : gk_K G s := F.2.2.2.2.2.1
theorem jf_z (F : jf p l s m args meth c G own cc nL tab) : G.2.2.1 ≤ s.heap.size := F.2.2.2.2.2.2.1
theorem jf_sx (F : jf p l s m args meth c G own cc nL tab) : sx_S G s s.heap := F.2.2.2.2.2.2.2.1
theorem jf_lk (F : jf p l s m args meth c G own cc nL tab) : meth.locks = false := F.2.2.2.2.2.2.2.2.1
theorem jf_tr (F : jf p l s m args meth c G own cc nL tab) : l.stackTraces = false := F.2.2.2.2.2.2.2.2.2.1
theorem jf_tab (F : jf p l s m args meth c G own cc nL tab) : c.exceptionTable.toList = tab := F.2.2.2.2.2.2.2.2.2.2
theorem j_iconst (F : jf p l s m args meth c G own cc nL tab) {i : Int} {v : Int32} (hd : decode cc pc = .ok (.iconst i, 1)) (hv : Int32.ofInt i = v) (kk : jj p l e R s m args below meth c G nL Q M k n lv (pc + 1) (.int v :: st)) : jj p l e R s m args below meth c G nL Q M k n lv (pc) (st) := fun H L ls h1 h2 h3 => lv_iconst (jf_x F) (jf_b F) hd hv (kk H L ls h1 h2 h3)
theorem j_bipush (F : jf p l s m args meth c G own cc nL tab) {i : Int} {v : Int32} (hd : decode cc pc = .ok (.bipush i, 2)) (hv : (Int8.ofInt i).toInt32 = v) (kk : jj p l e R s m args below meth c G nL Q M k n lv (pc + 2) (.int v :: st)) : jj p l e R s m args below meth c G nL Q M k n lv (pc) (st) := fun H L ls h1 h2 h3 => lv_bipush (jf_x F) (jf_b F) hd hv (kk H L ls h1 h2 h3)
theorem j_sipush (F : jf p l s m args meth c G own cc nL tab) {i : Int} {v : Int32} (hd : decode cc pc = .ok (.sipush i, 3)) (hv : (Int16.ofInt i).toInt32 = v) (kk : jj p l e R s m args below meth c G nL Q M k n lv (pc + 3) (.int v :: st)) : jj p l e R s m args below meth c G nL Q M k n lv (pc) (st) := fun H L ls h1 h2 h3 => lv_sipush (jf_x F) (jf_b F) hd hv (kk H L ls h1 h2 h3)
theorem j_lconst (F : jf p l s m args meth c G own cc nL tab) {i : Fin 2} {v : Int64} (hd : decode cc pc = .ok (.lconst i, 1)) (hv : Int64.ofNat (i : Nat) = v) (kk : jj p l e R s m args below meth c G nL Q M k n lv (pc + 1) (.long v :: st)) : jj p l e R s m args below meth c G nL Q M k n lv (pc) (st) := fun H L ls h1 h2 h3 => lv_lconst (jf_x F) (jf_b F) hd hv (kk H L ls h1 h2 h3)
theorem j_null (F : jf p l s m args meth c G own cc nL tab)  (hd : decode cc pc = .ok (.aconst_null, 1)) (kk : jj p l e R s m args below meth c G nL Q M k n lv (pc + 1) (.null :: st)) : jj p l e R s m args below meth c G nL Q M k n lv (pc) (st) := fun H L ls h1 h2 h3 => lv_null (jf_x F) (jf_b F) hd (kk H L ls h1 h2 h3)
theorem j_iload_n (F : jf p l s m args meth c G own cc nL tab) {a : Fin 4} {i : Nat} {x : Int32} (hd : decode cc pc = .ok (.iload_n a, 1)) (hi : (a : Nat) = i) (hq : lv.lookup i = some (.int x)) (kk : jj p l e R s m args below meth c G nL Q M k n lv (pc + 1) (.int x :: st)) : jj p l e R s m args below meth c G nL Q M k n lv (pc) (st) := fun H L ls h1 h2 h3 => lv_iload_n (jf_x F) (jf_b F) hd hi (lk_at h3 hq) (kk H L ls h1 h2 h3)
theorem j_iload (F : jf p l s m args meth c G own cc nL tab) {i : Nat} {x : Int32} (hd : decode cc pc = .ok (.iload i, 2)) (hq : lv.lookup i = some (.int x)) (kk : jj p l e R s m args below meth c G nL Q M k n lv (pc + 2) (.int x :: st)) : jj p l e R s m args below meth c G nL Q M k n lv (pc) (st) := fun H L ls h1 h2 h3 => lv_iload (jf_x F) (jf_b F) hd (lk_at h3 hq) (kk H L ls h1 h2 h3)
theorem j_lload_n (F : jf p l s m args meth c G own cc nL tab) {a : Fin 4} {i : Nat} {x : Int64} (hd : decode cc pc = .ok (.lload_n a, 1)) (hi : (a : Nat) = i) (hq : lv.lookup i = some (.long x)) (kk : jj p l e R s m args below meth c G nL Q M k n lv (pc + 1) (.long x :: st)) : jj p l e R s m args below meth c G nL Q M k n lv (pc) (st) := fun H L ls h1 h2 h3 => lv_lload_n (jf_x F) (jf_b F) hd hi (lk_at h3 hq) (kk H L ls h1 h2 h3)
theorem j_lload (F : jf p l s m args meth c G own cc nL tab) {i : Nat} {x : Int64} (hd : decode cc pc = .ok (.lload i, 2)) (hq : lv.lookup i = some (.long x)) (kk : jj p l e R s m args below meth c G nL Q M k n lv (pc + 2) (.long x :: st)) : jj p l e R s m args below meth c G nL Q M k n lv (pc) (st) := fun H L ls h1 h2 h3 => lv_lload (jf_x F) (jf_b F) hd (lk_at h3 hq) (kk H L ls h1 h2 h3)
theorem j_aload_n (F : jf p l s m args meth c G own cc nL tab) {a : Fin 4} {i : Nat} {x : Nat} (hd : decode cc pc = .ok (.aload_n a, 1)) (hi : (a : Nat) = i) (hq : lv.lookup i = some (.ref x)) (kk : jj p l e R s m args below meth c G nL Q M k n lv (pc + 1) (.ref x :: st)) : jj p l e R s m args below meth c G nL Q M k n lv (pc) (st) := fun H L ls h1 h2 h3 => lv_aload_n (jf_x F) (jf_b F) hd hi (lk_at h3 hq) (kk H L ls h1 h2 h3)
theorem j_aload (F : jf p l s m args meth c G own cc nL tab) {i : Nat} {x : Nat} (hd : decode cc pc = .ok (.aload i, 2)) (hq : lv.lookup i = some (.ref x)) (kk : jj p l e R s m args below meth c G nL Q M k n lv (pc + 2) (.ref x :: st)) : jj p l e R s m args below meth c G nL Q M k n lv (pc) (st) := fun H L ls h1 h2 h3 => lv_aload (jf_x F) (jf_b F) hd (lk_at h3 hq) (kk H L ls h1 h2 h3)
theorem j_aload_nq (F : jf p l s m args meth c G own cc nL tab) {a : Fin 4} {i : Nat} {r : Option Nat} (hd : decode cc pc = .ok (.aload_n a, 1)) (hi : (a : Nat) = i) (hq : lv.lookup i = some (va_rf r)) (kk : jj p l e R s m args below meth c G nL Q M k n lv (pc + 1) (va_rf r :: st)) : jj p l e R s m args below meth c G nL Q M k n lv (pc) (st) := by
  intro H L ls h1 h2 h3
  cases r with
  | none => exact lv_aload_nN (jf_x F) (jf_b F) hd hi (lk_at h3 hq) (kk H L ls h1 h2 h3)
  | some x => exact lv_aload_n (jf_x F) (jf_b F) hd hi (lk_at h3 hq) (kk H L ls h1 h2 h3)
theorem j_aloadq (F : jf p l s m args meth c G own cc nL tab) {i : Nat} {r : Option Nat} (hd : decode cc pc = .ok (.aload i, 2)) (hq : lv.lookup i = some (va_rf r)) (kk : jj p l e R s m args below meth c G nL Q M k n lv (pc + 2) (va_rf r :: st)) : jj p l e R s m args below meth c G nL Q M k n lv (pc) (st) := by
  intro H L ls h1 h2 h3
  cases r with
  | none => exact lv_aloadN (jf_x F) (jf_b F) hd (lk_at h3 hq) (kk H L ls h1 h2 h3)
  | some x => exact lv_aload (jf_x F) (jf_b F) hd (lk_at h3 hq) (kk H L ls h1 h2 h3)
theorem j_istore_n (F : jf p l s m args meth c G own cc nL tab) {a : Fin 4} {i : Nat} {x : Int32} {lv1 : List (Nat × Value)} (hd : decode cc pc = .ok (.istore_n a, 1)) (hi : (a : Nat) = i) (hn : i < nL) (hl : (i, Value.int x) :: lv.filter (fun q => !(q.1 == i) && !(q.1 + 1 == i && q.2.category == 2)) = lv1) (kk : jj p l e R s m args below meth c G nL Q M k n lv1 (pc + 1) (st)) : jj p l e R s m args below meth c G nL Q M k n lv (pc) (Value.int x :: st) := fun H L ls h1 h2 h3 => lv_istore_n (jf_x F) (jf_b F) hd hi h3 hn hl (fun ls1 h3 => kk H L ls1 h1 h2 h3)
theorem j_istore (F : jf p l s m args meth c G own cc nL tab) {i : Nat} {x : Int32} {lv1 : List (Nat × Value)} (hd : decode cc pc = .ok (.istore i, 2)) (hn : i < nL) (hl : (i, Value.int x) :: lv.filter (fun q => !(q.1 == i) && !(q.1 + 1 == i && q.2.category == 2)) = lv1) (kk : jj p l e R s m args below meth c G nL Q M k n lv1 (pc + 2) (st)) : jj p l e R s m args below meth c G nL Q M k n lv (pc) (Value.int x :: st) := fun H L ls h1 h2 h3 => lv_istore (jf_x F) (jf_b F) hd h3 hn hl (fun ls1 h3 => kk H L ls1 h1 h2 h3)
theorem j_lstore_n (F : jf p l s m args meth c G own cc nL tab) {a : Fin 4} {i : Nat} {x : Int64} {lv1 : List (Nat × Value)} (hd : decode cc pc = .ok (.lstore_n a, 1)) (hi : (a : Nat) = i) (hn : i + 1 < nL) (hl : (i, Value.long x) :: lv.filter (fun q => !(q.1 == i) && (!(q.1 == i + 1) && !(q.1 + 1 == i && q.2.category == 2))) = lv1) (kk : jj p l e R s m args below meth c G nL Q M k n lv1 (pc + 1) (st)) : jj p l e R s m args below meth c G nL Q M k n lv (pc) (Value.long x :: st) := fun H L ls h1 h2 h3 => lv_lstore_n (jf_x F) (jf_b F) hd hi h3 hn hl (fun ls1 h3 => kk H L ls1 h1 h2 h3)
theorem j_lstore (F : jf p l s m args meth c G own cc nL tab) {i : Nat} {x : Int64} {lv1 : List (Nat × Value)} (hd : decode cc pc = .ok (.lstore i, 2)) (hn : i + 1 < nL) (hl : (i, Value.long x) :: lv.filter (fun q => !(q.1 == i) && (!(q.1 == i + 1) && !(q.1 + 1 == i && q.2.category == 2))) = lv1) (kk : jj p l e R s m args below meth c G nL Q M k n lv1 (pc + 2) (st)) : jj p l e R s m args below meth c G nL Q M k n lv (pc) (Value.long x :: st) := fun H L ls h1 h2 h3 => lv_lstore (jf_x F) (jf_b F) hd h3 hn hl (fun ls1 h3 => kk H L ls1 h1 h2 h3)
theorem j_astore_n (F : jf p l s m args meth c G own cc nL tab) {a : Fin 4} {i : Nat} {x : Nat} {lv1 : List (Nat × Value)} (hd : decode cc pc = .ok (.astore_n a, 1)) (hi : (a : Nat) = i) (hn : i < nL) (hl : (i, Value.ref x) :: lv.filter (fun q => !(q.1 == i) && !(q.1 + 1 == i && q.2.category == 2)) = lv1) (kk : jj p l e R s m args below meth c G nL Q M k n lv1 (pc + 1) (st)) : jj p l e R s m args below meth c G nL Q M k n lv (pc) (Value.ref x :: st) := fun H L ls h1 h2 h3 => lv_astore_n (jf_x F) (jf_b F) hd hi h3 hn hl (fun ls1 h3 => kk H L ls1 h1 h2 h3)
theorem j_astore (F : jf p l s m args meth c G own cc nL tab) {i : Nat} {x : Nat} {lv1 : List (Nat × Value)} (hd : decode cc pc = .ok (.astore i, 2)) (hn : i < nL) (hl : (i, Value.ref x) :: lv.filter (fun q => !(q.1 == i) && !(q.1 + 1 == i && q.2.category == 2)) = lv1) (kk : jj p l e R s m args below meth c G nL Q M k n lv1 (pc + 2) (st)) : jj p l e R s m args below meth c G nL Q M k n lv (pc) (Value.ref x :: st) := fun H L ls h1 h2 h3 => lv_astore (jf_x F) (jf_b F) hd h3 hn hl (fun ls1 h3 => kk H L ls1 h1 h2 h3)
theorem j_astore_nq (F : jf p l s m args meth c G own cc nL tab) {a : Fin 4} {i : Nat} {r : Option Nat} {lv1 : List (Nat × Value)} (hd : decode cc pc = .ok (.astore_n a, 1)) (hi : (a : Nat) = i) (hn : i < nL) (hl : (i, va_rf r) :: lv.filter (fun q => !(q.1 == i) && !(q.1 + 1 == i && q.2.category == 2)) = lv1) (kk : jj p l e R s m args below meth c G nL Q M k n lv1 (pc + 1) (st)) : jj p l e R s m args below meth c G nL Q M k n lv (pc) (va_rf r :: st) := by
  intro H L ls h1 h2 h3
  cases r with
  | none => exact lv_astore_nN (jf_x F) (jf_b F) hd hi h3 hn hl (fun ls1 h3 => kk H L ls1 h1 h2 h3)
  | some x => exact lv_astore_n (jf_x F) (jf_b F) hd hi h3 hn hl (fun ls1 h3 => kk H L ls1 h1 h2 h3)
theorem j_astoreq (F : jf p l s m args meth c G own cc nL tab) {i : Nat} {r : Option Nat} {lv1 : List (Nat × Value)} (hd : decode cc pc = .ok (.astore i, 2)) (hn : i < nL) (hl : (i, va_rf r) :: lv.filter (fun q => !(q.1 == i) && !(q.1 + 1 == i && q.2.category == 2)) = lv1) (kk : jj p l e R s m args below meth c G nL Q M k n lv1 (pc + 2) (st)) : jj p l e R s m args below meth c G nL Q M k n lv (pc) (va_rf r :: st) := by
  intro H L ls h1 h2 h3
  cases r with
  | none => exact lv_astoreN (jf_x F) (jf_b F) hd h3 hn hl (fun ls1 h3 => kk H L ls1 h1 h2 h3)
  | some x => exact lv_astore (jf_x F) (jf_b F) hd h3 hn hl (fun ls1 h3 => kk H L ls1 h1 h2 h3)
theorem j_iinc (F : jf p l s m args meth c G own cc nL tab) {i : Nat} {d : Int} {x v : Int32} {lv1 : List (Nat × Value)} (hd : decode cc pc = .ok (.iinc i d, 3)) (hq : lv.lookup i = some (.int x)) (hv : x + Int32.ofInt d = v) (hn : i < nL) (hl : (i, Value.int v) :: lv.filter (fun q => !(q.1 == i) && !(q.1 + 1 == i && q.2.category == 2)) = lv1) (kk : jj p l e R s m args below meth c G nL Q M k n lv1 (pc + 3) (st)) : jj p l e R s m args below meth c G nL Q M k n lv (pc) (st) := fun H L ls h1 h2 h3 => (by obtain ⟨q, hq1⟩ := lk_pl hq; exact lv_iinc (jf_x F) (jf_b F) hd h3 hq1 hv hn hl (fun ls1 h3 => kk H L ls1 h1 h2 h3))
theorem rf_cat (r : Option Nat) : (va_rf r).category = 1 := by cases r <;> rfl
theorem ca_r (a : Nat) : (Value.ref a).category = 1 := rfl
theorem ca_i (x : Int32) : (Value.int x).category = 1 := rfl
theorem ca_n : Value.null.category = 1 := rfl
theorem lv_mono {ls : Array Slot} {nL : Nat} {a b : List (Nat × Value)} (h : lv_has ls nL a) (hs : ∀ q ∈ b, q ∈ a) : lv_has ls nL b := ⟨h.1, h.2.1, fun q hq => h.2.2 q (hs q hq)⟩
theorem lv_keep {lv : List (Nat × Value)} {i : Nat} {x : Value} (hc : ∀ q ∈ lv, q.1 + 1 = i → q.2.category = 1) : ∀ q ∈ (i, x) :: lv.filter (fun q => !(q.1 == i)), q ∈ (i, x) :: lv.filter (fun q => !(q.1 == i) && !(q.1 + 1 == i && q.2.category == 2)) := by
  intro q hq
  rcases List.mem_cons.mp hq with h | h
  · rw [h]; exact List.mem_cons_self
  · obtain ⟨h1, h2⟩ := List.mem_filter.mp h
    refine List.mem_cons_of_mem _ (List.mem_filter.mpr ⟨h1, ?_⟩)
    rw [h2]
    by_cases hi : q.1 + 1 = i
    · have := hc q h1 hi
      simp [this]
    · simp [hi]
theorem j_istore_nC (F : jf p l s m args meth c G own cc nL tab) {a : Fin 4} {i : Nat} {x : Int32} {lv1 : List (Nat × Value)} (hd : decode cc pc = .ok (.istore_n a, 1)) (hi : (a : Nat) = i) (hn : i < nL) (hc : ∀ q ∈ lv, q.1 + 1 = i → q.2.category = 1) (hl : (i, Value.int x) :: lv.filter (fun q => !(q.1 == i)) = lv1) (kk : jj p l e R s m args below meth c G nL Q M k n lv1 (pc + 1) (st)) : jj p l e R s m args below meth c G nL Q M k n lv (pc) (Value.int x :: st) := fun H L ls h1 h2 h3 => lv_istore_n (jf_x F) (jf_b F) hd hi h3 hn rfl (fun ls1 h3 => kk H L ls1 h1 h2 (by rw [← hl]; exact lv_mono h3 (lv_keep hc)))
theorem j_istoreC (F : jf p l s m args meth c G own cc nL tab) {i : Nat} {x : Int32} {lv1 : List (Nat × Value)} (hd : decode cc pc = .ok (.istore i, 2)) (hn : i < nL) (hc : ∀ q ∈ lv, q.1 + 1 = i → q.2.category = 1) (hl : (i, Value.int x) :: lv.filter (fun q => !(q.1 == i)) = lv1) (kk : jj p l e R s m args below meth c G nL Q M k n lv1 (pc + 2) (st)) : jj p l e R s m args below meth c G nL Q M k n lv (pc) (Value.int x :: st) := fun H L ls h1 h2 h3 => lv_istore (jf_x F) (jf_b F) hd h3 hn rfl (fun ls1 h3 => kk H L ls1 h1 h2 (by rw [← hl]; exact lv_mono h3 (lv_keep hc)))
theorem j_astore_nC (F : jf p l s m args meth c G own cc nL tab) {a : Fin 4} {i : Nat} {x : Nat} {lv1 : List (Nat × Value)} (hd : decode cc pc = .ok (.astore_n a, 1)) (hi : (a : Nat) = i) (hn : i < nL) (hc : ∀ q ∈ lv, q.1 + 1 = i → q.2.category = 1) (hl : (i, Value.ref x) :: lv.filter (fun q => !(q.1 == i)) = lv1) (kk : jj p l e R s m args below meth c G nL Q M k n lv1 (pc + 1) (st)) : jj p l e R s m args below meth c G nL Q M k n lv (pc) (Value.ref x :: st) := fun H L ls h1 h2 h3 => lv_astore_n (jf_x F) (jf_b F) hd hi h3 hn rfl (fun ls1 h3 => kk H L ls1 h1 h2 (by rw [← hl]; exact lv_mono h3 (lv_keep hc)))
theorem j_astoreC (F : jf p l s m args meth c G own cc nL tab) {i : Nat} {x : Nat} {lv1 : List (Nat × Value)} (hd : decode cc pc = .ok (.astore i, 2)) (hn : i < nL) (hc : ∀ q ∈ lv, q.1 + 1 = i → q.2.category = 1) (hl : (i, Value.ref x) :: lv.filter (fun q => !(q.1 == i)) = lv1) (kk : jj p l e R s m args below meth c G nL Q M k n lv1 (pc + 2) (st)) : jj p l e R s m args below meth c G nL Q M k n lv (pc) (Value.ref x :: st) := fun H L ls h1 h2 h3 => lv_astore (jf_x F) (jf_b F) hd h3 hn rfl (fun ls1 h3 => kk H L ls1 h1 h2 (by rw [← hl]; exact lv_mono h3 (lv_keep hc)))
theorem j_astore_nqC (F : jf p l s m args meth c G own cc nL tab) {a : Fin 4} {i : Nat} {r : Option Nat} {lv1 : List (Nat × Value)} (hd : decode cc pc = .ok (.astore_n a, 1)) (hi : (a : Nat) = i) (hn : i < nL) (hc : ∀ q ∈ lv, q.1 + 1 = i → q.2.category = 1) (hl : (i, va_rf r) :: lv.filter (fun q => !(q.1 == i)) = lv1) (kk : jj p l e R s m args below meth c G nL Q M k n lv1 (pc + 1) (st)) : jj p l e R s m args below meth c G nL Q M k n lv (pc) (va_rf r :: st) := by
  intro H L ls h1 h2 h3
  cases r with
  | none => exact lv_astore_nN (jf_x F) (jf_b F) hd hi h3 hn rfl (fun ls1 h3 => kk H L ls1 h1 h2 (by rw [← hl]; exact lv_mono h3 (lv_keep hc)))
  | some x => exact lv_astore_n (jf_x F) (jf_b F) hd hi h3 hn rfl (fun ls1 h3 => kk H L ls1 h1 h2 (by rw [← hl]; exact lv_mono h3 (lv_keep hc)))
theorem j_astoreqC (F : jf p l s m args meth c G own cc nL tab) {i : Nat} {r : Option Nat} {lv1 : List (Nat × Value)} (hd : decode cc pc = .ok (.astore i, 2)) (hn : i < nL) (hc : ∀ q ∈ lv, q.1 + 1 = i → q.2.category = 1) (hl : (i, va_rf r) :: lv.filter (fun q => !(q.1 == i)) = lv1) (kk : jj p l e R s m args below meth c G nL Q M k n lv1 (pc + 2) (st)) : jj p l e R s m args below meth c G nL Q M k n lv (pc) (va_rf r :: st) := by
  intro H L ls h1 h2 h3
  cases r with
  | none => exact lv_astoreN (jf_x F) (jf_b F) hd h3 hn rfl (fun ls1 h3 => kk H L ls1 h1 h2 (by rw [← hl]; exact lv_mono h3 (lv_keep hc)))
  | some x => exact lv_astore (jf_x F) (jf_b F) hd h3 hn rfl (fun ls1 h3 => kk H L ls1 h1 h2 (by rw [← hl]; exact lv_mono h3 (lv_keep hc)))
theorem j_iincC (F : jf p l s m args meth c G own cc nL tab) {i : Nat} {d : Int} {x v : Int32} {lv1 : List (Nat × Value)} (hd : decode cc pc = .ok (.iinc i d, 3)) (hq : lv.lookup i = some (.int x)) (hv : x + Int32.ofInt d = v) (hn : i < nL) (hc : ∀ q ∈ lv, q.1 + 1 = i → q.2.category = 1) (hl : (i, Value.int v) :: lv.filter (fun q => !(q.1 == i)) = lv1) (kk : jj p l e R s m args below meth c G nL Q M k n lv1 (pc + 3) (st)) : jj p l e R s m args below meth c G nL Q M k n lv (pc) (st) := fun H L ls h1 h2 h3 => (by obtain ⟨q, hq1⟩ := lk_pl hq; exact lv_iinc (jf_x F) (jf_b F) hd h3 hq1 hv hn rfl (fun ls1 h3 => kk H L ls1 h1 h2 (by rw [← hl]; exact lv_mono h3 (lv_keep hc))))
theorem j_sub {lv1 : List (Nat × Value)} (ks : List Nat) (hl : lv_pick lv ks = lv1) (kk : jj p l e R s m args below meth c G nL Q M k n lv1 (pc) (st)) : jj p l e R s m args below meth c G nL Q M k n lv (pc) (st) := fun H L ls h1 h2 h3 => kk H L ls h1 h2 (lv_sub h3 ks hl)
theorem j_iadd (F : jf p l s m args meth c G own cc nL tab) {x y : Int32} (hd : decode cc pc = .ok (.iadd, 1)) (kk : jj p l e R s m args below meth c G nL Q M k n lv (pc + 1) (.int (x + y) :: st)) : jj p l e R s m args below meth c G nL Q M k n lv (pc) (.int y :: .int x :: st) := fun H L ls h1 h2 h3 => lv_iadd (jf_x F) (jf_b F) hd (kk H L ls h1 h2 h3)
theorem j_isub (F : jf p l s m args meth c G own cc nL tab) {x y : Int32} (hd : decode cc pc = .ok (.isub, 1)) (kk : jj p l e R s m args below meth c G nL Q M k n lv (pc + 1) (.int (x - y) :: st)) : jj p l e R s m args below meth c G nL Q M k n lv (pc) (.int y :: .int x :: st) := fun H L ls h1 h2 h3 => lv_isub (jf_x F) (jf_b F) hd (kk H L ls h1 h2 h3)
theorem j_imul (F : jf p l s m args meth c G own cc nL tab) {x y : Int32} (hd : decode cc pc = .ok (.imul, 1)) (kk : jj p l e R s m args below meth c G nL Q M k n lv (pc + 1) (.int (x * y) :: st)) : jj p l e R s m args below meth c G nL Q M k n lv (pc) (.int y :: .int x :: st) := fun H L ls h1 h2 h3 => lv_imul (jf_x F) (jf_b F) hd (kk H L ls h1 h2 h3)
theorem j_iand (F : jf p l s m args meth c G own cc nL tab) {x y : Int32} (hd : decode cc pc = .ok (.iand, 1)) (kk : jj p l e R s m args below meth c G nL Q M k n lv (pc + 1) (.int (x &&& y) :: st)) : jj p l e R s m args below meth c G nL Q M k n lv (pc) (.int y :: .int x :: st) := fun H L ls h1 h2 h3 => lv_iand (jf_x F) (jf_b F) hd (kk H L ls h1 h2 h3)
theorem j_irem (F : jf p l s m args meth c G own cc nL tab) {x y : Int32} (hd : decode cc pc = .ok (.irem, 1)) (hne : ¬ y = 0) (kk : jj p l e R s m args below meth c G nL Q M k n lv (pc + 1) (.int (x - x / y * y) :: st)) : jj p l e R s m args below meth c G nL Q M k n lv (pc) (.int y :: .int x :: st) := fun H L ls h1 h2 h3 => lv_irem (jf_x F) (jf_b F) hd hne (kk H L ls h1 h2 h3)
theorem j_ishr (F : jf p l s m args meth c G own cc nL tab) {x y : Int32} (hd : decode cc pc = .ok (.ishr, 1)) (kk : jj p l e R s m args below meth c G nL Q M k n lv (pc + 1) (.int (x >>> (y &&& 31)) :: st)) : jj p l e R s m args below meth c G nL Q M k n lv (pc) (.int y :: .int x :: st) := fun H L ls h1 h2 h3 => lv_ishr (jf_x F) (jf_b F) hd (kk H L ls h1 h2 h3)
theorem j_ladd (F : jf p l s m args meth c G own cc nL tab) {x y : Int64} (hd : decode cc pc = .ok (.ladd, 1)) (kk : jj p l e R s m args below meth c G nL Q M k n lv (pc + 1) (.long (x + y) :: st)) : jj p l e R s m args below meth c G nL Q M k n lv (pc) (.long y :: .long x :: st) := fun H L ls h1 h2 h3 => lv_ladd (jf_x F) (jf_b F) hd (kk H L ls h1 h2 h3)
theorem j_lmul (F : jf p l s m args meth c G own cc nL tab) {x y : Int64} (hd : decode cc pc = .ok (.lmul, 1)) (kk : jj p l e R s m args below meth c G nL Q M k n lv (pc + 1) (.long (x * y) :: st)) : jj p l e R s m args below meth c G nL Q M k n lv (pc) (.long y :: .long x :: st) := fun H L ls h1 h2 h3 => lv_lmul (jf_x F) (jf_b F) hd (kk H L ls h1 h2 h3)
theorem j_lor (F : jf p l s m args meth c G own cc nL tab) {x y : Int64} (hd : decode cc pc = .ok (.lor, 1)) (kk : jj p l e R s m args below meth c G nL Q M k n lv (pc + 1) (.long (x ||| y) :: st)) : jj p l e R s m args below meth c G nL Q M k n lv (pc) (.long y :: .long x :: st) := fun H L ls h1 h2 h3 => lv_lor (jf_x F) (jf_b F) hd (kk H L ls h1 h2 h3)
theorem j_lshl (F : jf p l s m args meth c G own cc nL tab) {x v : Int64} {y : Int32} (hd : decode cc pc = .ok (.lshl, 1)) (hv : x <<< (y.toInt64 &&& 63) = v) (kk : jj p l e R s m args below meth c G nL Q M k n lv (pc + 1) (.long v :: st)) : jj p l e R s m args below meth c G nL Q M k n lv (pc) (.int y :: .long x :: st) := fun H L ls h1 h2 h3 => lv_lshl (jf_x F) (jf_b F) hd hv (kk H L ls h1 h2 h3)
theorem j_i2l (F : jf p l s m args meth c G own cc nL tab) {x : Int32} {v : Int64} (hd : decode cc pc = .ok (.i2l, 1)) (hv : x.toInt64 = v) (kk : jj p l e R s m args below meth c G nL Q M k n lv (pc + 1) (.long v :: st)) : jj p l e R s m args below meth c G nL Q M k n lv (pc) (.int x :: st) := fun H L ls h1 h2 h3 => lv_i2l (jf_x F) (jf_b F) hd hv (kk H L ls h1 h2 h3)
theorem j_i2b (F : jf p l s m args meth c G own cc nL tab) {x v : Int32} (hd : decode cc pc = .ok (.i2b, 1)) (hv : x.toInt8.toInt32 = v) (kk : jj p l e R s m args below meth c G nL Q M k n lv (pc + 1) (.int v :: st)) : jj p l e R s m args below meth c G nL Q M k n lv (pc) (.int x :: st) := fun H L ls h1 h2 h3 => lv_i2b (jf_x F) (jf_b F) hd hv (kk H L ls h1 h2 h3)
theorem j_lcmp (F : jf p l s m args meth c G own cc nL tab) {x y : Int64} (hd : decode cc pc = .ok (.lcmp, 1)) (kk : jj p l e R s m args below meth c G nL Q M k n lv (pc + 1) (.int (lg_cmp x y) :: st)) : jj p l e R s m args below meth c G nL Q M k n lv (pc) (.long y :: .long x :: st) := fun H L ls h1 h2 h3 => W.lcmp (jf_x F) (jf_b F) hd (kk H L ls h1 h2 h3)
theorem j_dup (F : jf p l s m args meth c G own cc nL tab) {v : Value} (hd : decode cc pc = .ok (.dup, 1)) (hc : v.category = 1) (kk : jj p l e R s m args below meth c G nL Q M k n lv (pc + 1) (v :: v :: st)) : jj p l e R s m args below meth c G nL Q M k n lv (pc) (v :: st) := fun H L ls h1 h2 h3 => lv_dup (jf_x F) (jf_b F) hd hc (kk H L ls h1 h2 h3)
theorem j_pop (F : jf p l s m args meth c G own cc nL tab) {v : Value} (hd : decode cc pc = .ok (.pop, 1)) (hc : v.category = 1) (kk : jj p l e R s m args below meth c G nL Q M k n lv (pc + 1) (st)) : jj p l e R s m args below meth c G nL Q M k n lv (pc) (v :: st) := fun H L ls h1 h2 h3 => lv_pop (jf_x F) (jf_b F) hd hc (kk H L ls h1 h2 h3)
theorem j_if_eq (F : jf p l s m args meth c G own cc nL tab) {x : Int32} {off : Int} {tgt : Nat} (hd : decode cc pc = .ok (.ifCond .eq off, 3)) (ht : (pc : Int) + off = (tgt : Int)) (kt : x = 0 → jj p l e R s m args below meth c G nL Q M k n lv (tgt) (st)) (kf : ¬ (x = 0) → jj p l e R s m args below meth c G nL Q M k n lv (pc + 3) (st)) : jj p l e R s m args below meth c G nL Q M k n lv (pc) (.int x :: st) := fun H L ls h1 h2 h3 => lv_if_eq (jf_x F) (jf_b F) hd ht (fun h => kt h H L ls h1 h2 h3) (fun h => kf h H L ls h1 h2 h3)
theorem j_icmp_eq (F : jf p l s m args meth c G own cc nL tab) {x y : Int32} {off : Int} {tgt : Nat} (hd : decode cc pc = .ok (.if_icmp .eq off, 3)) (ht : (pc : Int) + off = (tgt : Int)) (kt : x = y → jj p l e R s m args below meth c G nL Q M k n lv (tgt) (st)) (kf : ¬ (x = y) → jj p l e R s m args below meth c G nL Q M k n lv (pc + 3) (st)) : jj p l e R s m args below meth c G nL Q M k n lv (pc) (.int y :: .int x :: st) := fun H L ls h1 h2 h3 => lv_icmp_eq (jf_x F) (jf_b F) hd ht (fun h => kt h H L ls h1 h2 h3) (fun h => kf h H L ls h1 h2 h3)
theorem j_if_ne (F : jf p l s m args meth c G own cc nL tab) {x : Int32} {off : Int} {tgt : Nat} (hd : decode cc pc = .ok (.ifCond .ne off, 3)) (ht : (pc : Int) + off = (tgt : Int)) (kt : ¬ x = 0 → jj p l e R s m args below meth c G nL Q M k n lv (tgt) (st)) (kf : x = 0 → jj p l e R s m args below meth c G nL Q M k n lv (pc + 3) (st)) : jj p l e R s m args below meth c G nL Q M k n lv (pc) (.int x :: st) := fun H L ls h1 h2 h3 => lv_if_ne (jf_x F) (jf_b F) hd ht (fun h => kt h H L ls h1 h2 h3) (fun h => kf h H L ls h1 h2 h3)
theorem j_icmp_ne (F : jf p l s m args meth c G own cc nL tab) {x y : Int32} {off : Int} {tgt : Nat} (hd : decode cc pc = .ok (.if_icmp .ne off, 3)) (ht : (pc : Int) + off = (tgt : Int)) (kt : ¬ x = y → jj p l e R s m args below meth c G nL Q M k n lv (tgt) (st)) (kf : x = y → jj p l e R s m args below meth c G nL Q M k n lv (pc + 3) (st)) : jj p l e R s m args below meth c G nL Q M k n lv (pc) (.int y :: .int x :: st) := fun H L ls h1 h2 h3 => lv_icmp_ne (jf_x F) (jf_b F) hd ht (fun h => kt h H L ls h1 h2 h3) (fun h => kf h H L ls h1 h2 h3)
theorem j_if_lt (F : jf p l s m args meth c G own cc nL tab) {x : Int32} {off : Int} {tgt : Nat} (hd : decode cc pc = .ok (.ifCond .lt off, 3)) (ht : (pc : Int) + off = (tgt : Int)) (kt : x < 0 → jj p l e R s m args below meth c G nL Q M k n lv (tgt) (st)) (kf : ¬ (x < 0) → jj p l e R s m args below meth c G nL Q M k n lv (pc + 3) (st)) : jj p l e R s m args below meth c G nL Q M k n lv (pc) (.int x :: st) := fun H L ls h1 h2 h3 => lv_if_lt (jf_x F) (jf_b F) hd ht (fun h => kt h H L ls h1 h2 h3) (fun h => kf h H L ls h1 h2 h3)
theorem j_icmp_lt (F : jf p l s m args meth c G own cc nL tab) {x y : Int32} {off : Int} {tgt : Nat} (hd : decode cc pc = .ok (.if_icmp .lt off, 3)) (ht : (pc : Int) + off = (tgt : Int)) (kt : x < y → jj p l e R s m args below meth c G nL Q M k n lv (tgt) (st)) (kf : ¬ (x < y) → jj p l e R s m args below meth c G nL Q M k n lv (pc + 3) (st)) : jj p l e R s m args below meth c G nL Q M k n lv (pc) (.int y :: .int x :: st) := fun H L ls h1 h2 h3 => lv_icmp_lt (jf_x F) (jf_b F) hd ht (fun h => kt h H L ls h1 h2 h3) (fun h => kf h H L ls h1 h2 h3)
theorem j_if_ge (F : jf p l s m args meth c G own cc nL tab) {x : Int32} {off : Int} {tgt : Nat} (hd : decode cc pc = .ok (.ifCond .ge off, 3)) (ht : (pc : Int) + off = (tgt : Int)) (kt : 0 ≤ x → jj p l e R s m args below meth c G nL Q M k n lv (tgt) (st)) (kf : ¬ (0 ≤ x) → jj p l e R s m args below meth c G nL Q M k n lv (pc + 3) (st)) : jj p l e R s m args below meth c G nL Q M k n lv (pc) (.int x :: st) := fun H L ls h1 h2 h3 => lv_if_ge (jf_x F) (jf_b F) hd ht (fun h => kt h H L ls h1 h2 h3) (fun h => kf h H L ls h1 h2 h3)
theorem j_icmp_ge (F : jf p l s m args meth c G own cc nL tab) {x y : Int32} {off : Int} {tgt : Nat} (hd : decode cc pc = .ok (.if_icmp .ge off, 3)) (ht : (pc : Int) + off = (tgt : Int)) (kt : y ≤ x → jj p l e R s m args below meth c G nL Q M k n lv (tgt) (st)) (kf : ¬ (y ≤ x) → jj p l e R s m args below meth c G nL Q M k n lv (pc + 3) (st)) : jj p l e R s m args below meth c G nL Q M k n lv (pc) (.int y :: .int x :: st) := fun H L ls h1 h2 h3 => lv_icmp_ge (jf_x F) (jf_b F) hd ht (fun h => kt h H L ls h1 h2 h3) (fun h => kf h H L ls h1 h2 h3)
theorem j_if_gt (F : jf p l s m args meth c G own cc nL tab) {x : Int32} {off : Int} {tgt : Nat} (hd : decode cc pc = .ok (.ifCond .gt off, 3)) (ht : (pc : Int) + off = (tgt : Int)) (kt : 0 < x → jj p l e R s m args below meth c G nL Q M k n lv (tgt) (st)) (kf : ¬ (0 < x) → jj p l e R s m args below meth c G nL Q M k n lv (pc + 3) (st)) : jj p l e R s m args below meth c G nL Q M k n lv (pc) (.int x :: st) := fun H L ls h1 h2 h3 => lv_if_gt (jf_x F) (jf_b F) hd ht (fun h => kt h H L ls h1 h2 h3) (fun h => kf h H L ls h1 h2 h3)
theorem j_icmp_gt (F : jf p l s m args meth c G own cc nL tab) {x y : Int32} {off : Int} {tgt : Nat} (hd : decode cc pc = .ok (.if_icmp .gt off, 3)) (ht : (pc : Int) + off = (tgt : Int)) (kt : y < x → jj p l e R s m args below meth c G nL Q M k n lv (tgt) (st)) (kf : ¬ (y < x) → jj p l e R s m args below meth c G nL Q M k n lv (pc + 3) (st)) : jj p l e R s m args below meth c G nL Q M k n lv (pc) (.int y :: .int x :: st) := fun H L ls h1 h2 h3 => lv_icmp_gt (jf_x F) (jf_b F) hd ht (fun h => kt h H L ls h1 h2 h3) (fun h => kf h H L ls h1 h2 h3)
theorem j_if_le (F : jf p l s m args meth c G own cc nL tab) {x : Int32} {off : Int} {tgt : Nat} (hd : decode cc pc = .ok (.ifCond .le off, 3)) (ht : (pc : Int) + off = (tgt : Int)) (kt : x ≤ 0 → jj p l e R s m args below meth c G nL Q M k n lv (tgt) (st)) (kf : ¬ (x ≤ 0) → jj p l e R s m args below meth c G nL Q M k n lv (pc + 3) (st)) : jj p l e R s m args below meth c G nL Q M k n lv (pc) (.int x :: st) := fun H L ls h1 h2 h3 => lv_if_le (jf_x F) (jf_b F) hd ht (fun h => kt h H L ls h1 h2 h3) (fun h => kf h H L ls h1 h2 h3)
theorem j_icmp_le (F : jf p l s m args meth c G own cc nL tab) {x y : Int32} {off : Int} {tgt : Nat} (hd : decode cc pc = .ok (.if_icmp .le off, 3)) (ht : (pc : Int) + off = (tgt : Int)) (kt : x ≤ y → jj p l e R s m args below meth c G nL Q M k n lv (tgt) (st)) (kf : ¬ (x ≤ y) → jj p l e R s m args below meth c G nL Q M k n lv (pc + 3) (st)) : jj p l e R s m args below meth c G nL Q M k n lv (pc) (.int y :: .int x :: st) := fun H L ls h1 h2 h3 => lv_icmp_le (jf_x F) (jf_b F) hd ht (fun h => kt h H L ls h1 h2 h3) (fun h => kf h H L ls h1 h2 h3)
theorem j_goto (F : jf p l s m args meth c G own cc nL tab) {off : Int} {tgt : Nat} (hd : decode cc pc = .ok (.goto off, 3)) (ht : (pc : Int) + off = (tgt : Int)) (kk : jj p l e R s m args below meth c G nL Q M k n lv (tgt) (st)) : jj p l e R s m args below meth c G nL Q M k n lv (pc) (st) := fun H L ls h1 h2 h3 => lv_goto (jf_x F) (jf_b F) hd ht (kk H L ls h1 h2 h3)
theorem j_ifnull (F : jf p l s m args meth c G own cc nL tab) {r : Option Nat} {off : Int} {tgt : Nat} (hd : decode cc pc = .ok (.ifnull off, 3)) (ht : (pc : Int) + off = (tgt : Int)) (kt : r = none → jj p l e R s m args below meth c G nL Q M k n lv (tgt) (st)) (kf : ∀ x : Nat, r = some x → jj p l e R s m args below meth c G nL Q M k n lv (pc + 3) (st)) : jj p l e R s m args below meth c G nL Q M k n lv (pc) (va_rf r :: st) := by
  intro H L ls h1 h2 h3
  cases r with
  | none => exact lv_ifnullN (jf_x F) (jf_b F) hd ht (kt rfl H L ls h1 h2 h3)
  | some x => exact lv_ifnull (jf_x F) (jf_b F) hd (kf x rfl H L ls h1 h2 h3)
theorem j_ifnonnull (F : jf p l s m args meth c G own cc nL tab) {r : Option Nat} {off : Int} {tgt : Nat} (hd : decode cc pc = .ok (.ifnonnull off, 3)) (ht : (pc : Int) + off = (tgt : Int)) (kt : ∀ x : Nat, r = some x → jj p l e R s m args below meth c G nL Q M k n lv (tgt) (st)) (kf : r = none → jj p l e R s m args below meth c G nL Q M k n lv (pc + 3) (st)) : jj p l e R s m args below meth c G nL Q M k n lv (pc) (va_rf r :: st) := by
  intro H L ls h1 h2 h3
  cases r with
  | none => exact lv_ifnonnullN (jf_x F) (jf_b F) hd (kf rfl H L ls h1 h2 h3)
  | some x => exact lv_ifnonnull (jf_x F) (jf_b F) hd ht (kt x rfl H L ls h1 h2 h3)
theorem j_tableIn (F : jf p l s m args meth c G own cc nL tab) {dflt lo hi : Int} {offs : Array Int} {len : Nat} {x : Int32} {off : Int} {tgt : Nat} (hd : decode cc pc = .ok (.tableswitch dflt lo hi offs, len)) (h1' : ¬ x.toInt < lo) (h2' : ¬ hi < x.toInt) (ho : offs[(x.toInt - lo).toNat]? = some off) (ht : (pc : Int) + off = (tgt : Int)) (kk : jj p l e R s m args below meth c G nL Q M k n lv (tgt) (st)) : jj p l e R s m args below meth c G nL Q M k n lv (pc) (.int x :: st) := fun H L ls h1 h2 h3 => lv_tableIn (jf_x F) (jf_b F) hd h1' h2' ho ht (kk H L ls h1 h2 h3)
theorem j_tableOut (F : jf p l s m args meth c G own cc nL tab) {dflt lo hi : Int} {offs : Array Int} {len : Nat} {x : Int32} {tgt : Nat} (hd : decode cc pc = .ok (.tableswitch dflt lo hi offs, len)) (h : x.toInt < lo ∨ hi < x.toInt) (ht : (pc : Int) + dflt = (tgt : Int)) (kk : jj p l e R s m args below meth c G nL Q M k n lv (tgt) (st)) : jj p l e R s m args below meth c G nL Q M k n lv (pc) (.int x :: st) := fun H L ls h1 h2 h3 => lv_tableOut (jf_x F) (jf_b F) hd h ht (kk H L ls h1 h2 h3)
theorem j_topi {x : Int32} (kk : ∀ y : Int32, y = x → jj p l e R s m args below meth c G nL Q M k n lv (pc) (.int y :: st)) : jj p l e R s m args below meth c G nL Q M k n lv (pc) (.int x :: st) := kk x rfl
theorem j_topl {x : Int64} (kk : ∀ y : Int64, y = x → jj p l e R s m args below meth c G nL Q M k n lv (pc) (.long y :: st)) : jj p l e R s m args below meth c G nL Q M k n lv (pc) (.long x :: st) := kk x rfl
theorem j_ldc2 (F : jf p l s m args meth c G own cc nL tab) {ix : Nat} {v : Int64} (hw : Cond.constantLong own ix v ∈ tb_ws) (hd : decode cc pc = .ok (.ldc2_w ix, 3)) (kk : jj p l e R s m args below meth c G nL Q M k n lv (pc + 3) (.long v :: st)) : jj p l e R s m args below meth c G nL Q M k n lv (pc) (st) := fun H L ls h1 h2 h3 => lv_ldc2 (jf_x F) (jf_b F) (jf_own F) (jf_ts F _ hw) hd (kk H L ls h1 h2 h3)
theorem j_widen {k1 n1 : Nat} (h1' : k ≤ k1) (h2' : n ≤ n1) (kk : jj p l e R s m args below meth c G nL Q M k1 n1 lv (pc) (st)) : jj p l e R s m args below meth c G nL Q M k n lv (pc) (st) := fun H L ls h1 h2 h3 => W.widen h1' h2' (kk H L ls h1 h2 h3)
theorem j_nmW {P : mp_T → Prop} (hP : P M) (kk : ∀ M1 : mp_T, P M1 → jj p l e R s m args below meth c G nL Q M1 k n lv (pc) (st)) : jj p l e R s m args below meth c G nL Q M k n lv (pc) (st) := kk M hP
theorem j_val {x y : Int32} (h : x = y) (kk : jj p l e R s m args below meth c G nL Q M k n lv (pc) (.int y :: st)) : jj p l e R s m args below meth c G nL Q M k n lv (pc) (.int x :: st) := h ▸ kk
theorem j_valL {x y : Int64} (h : x = y) (kk : jj p l e R s m args below meth c G nL Q M k n lv (pc) (.long y :: st)) : jj p l e R s m args below meth c G nL Q M k n lv (pc) (.long x :: st) := h ▸ kk
theorem j_lv {lv1 : List (Nat × Value)} (h : lv = lv1) (kk : jj p l e R s m args below meth c G nL Q M k n lv1 (pc) (st)) : jj p l e R s m args below meth c G nL Q M k n lv (pc) (st) := h ▸ kk
theorem j_at {pc1 : Nat} (h : pc = pc1) (kk : jj p l e R s m args below meth c G nL Q M k n lv (pc1) (st)) : jj p l e R s m args below meth c G nL Q M k n lv (pc) (st) := h ▸ kk
/-- a loop, or any induction: a measure falls -/
theorem j_ind {α : Type} (μ : α → Nat) (Mf : α → mp_T) (kf nf : α → Nat) (lf : α → List (Nat × Value)) (sf : α → List Value) (I : α → Prop) (hs : ∀ x : α, I x → (∀ y : α, I y → μ y < μ x → jj p l e R s m args below meth c G nL Q (Mf y) (kf y) (nf y) (lf y) (pc) (sf y)) → jj p l e R s m args below meth c G nL Q (Mf x) (kf x) (nf x) (lf x) (pc) (sf x)) (x : α) (hx : I x) : jj p l e R s m args below meth c G nL Q (Mf x) (kf x) (nf x) (lf x) (pc) (sf x) := by
  have key : ∀ d : Nat, ∀ x : α, I x → μ x < d → jj p l e R s m args below meth c G nL Q (Mf x) (kf x) (nf x) (lf x) (pc) (sf x) := by
    intro d
    induction d with
    | zero => intro x _ h; exact absurd h (Nat.not_lt_zero _)
    | succ d ih => intro x hx h; exact hs x hx (fun y hy hm => ih y hy (Nat.lt_of_lt_of_le hm (Nat.le_of_lt_succ h)))
  exact key (μ x + 1) x hx (Nat.lt_succ_self _)
/-- a place that several roads come to -/
theorem j_cut {α : Type} (P : α → Prop) (Mf : α → mp_T) (kf nf : α → Nat) (lf : α → List (Nat × Value)) (pc2 : Nat) (sf : α → List Value) (h : ∀ x : α, P x → jj p l e R s m args below meth c G nL Q (Mf x) (kf x) (nf x) (lf x) (pc2) (sf x)) (kk : (∀ x : α, P x → jj p l e R s m args below meth c G nL Q (Mf x) (kf x) (nf x) (lf x) (pc2) (sf x)) → jj p l e R s m args below meth c G nL Q M k n lv (pc) (st)) : jj p l e R s m args below meth c G nL Q M k n lv (pc) (st) := kk h
/-- the world may be said otherwise -/
theorem j_by {M1 : mp_T} (h : ∀ (a : Nat) (e : va_E), M1 a = some e → M a = some e) (kk : jj p l e R s m args below meth c G nL Q M1 k n lv (pc) (st)) : jj p l e R s m args below meth c G nL Q M k n lv (pc) (st) := fun H L ls h1 h2 h3 => kk H L ls (fun a e ha => h1 a e (h a e ha)) h2 h3
/-- a field is read -/
theorem j_get (F : jf p l s m args meth c G own cc nL tab) {C : String} {T : u_T} {N ci : Nat} {ix a : Nat} {fs : List Value} {v : Value} (ha : M a = some (.inr (ci, fs))) (hc : cls_L[ci]? = some (C, T, N)) (hin : ∀ w ∈ u_ws C T N, w ∈ tb_ws) (f : Nat) (hf : f < N) (hw : Cond.fieldLink own ix (T f).1 (T f).2.1 (T f).2.2.1 ∈ tb_ws) (hv : fs[f]? = some v) (hd : decode cc pc = .ok (.getfield ix, 3)) (kk : jj p l e R s m args below meth c G nL Q M k n lv (pc + 3) (v :: st)) : jj p l e R s m args below meth c G nL Q M k n lv (pc) (.ref a :: st) :=
  fun H L ls h1 h2 h3 => va_get (jf_x F) (jf_b F) (jf_ts F) hin (jf_own F) (jf_k F) (mp_one h1 ha) 0 rfl hc f hf (jf_ts F _ hw) (fun _ h => h) hv hd (kk H L ls h1 h2 h3)
/-- .. is written -/
theorem j_put (F : jf p l s m args meth c G own cc nL tab) {C : String} {T : u_T} {N ci : Nat} {ix a : Nat} {fs : List Value} {v : Value} {ty : FieldType} (ha : M a = some (.inr (ci, fs))) (hz : G.2.2.1 ≤ a) (hc : cls_L[ci]? = some (C, T, N)) (hin : ∀ w ∈ u_ws C T N, w ∈ tb_ws) (ty0 : Nat → FieldType) (hty : ∀ k, k < N → parseFieldDescriptor (T k).2.2.1 = some (ty0 k)) (hnm : ∀ a, a < N → ∀ b, b < N → a ≠ b → (T a).2.1 ≠ (T b).2.1) (f : Nat) (hf : f < N) (hw : Cond.fieldLink own ix (T f).1 (T f).2.1 (T f).2.2.1 ∈ tb_ws) (hfin : (T f).2.2.2 = false) (hpd : parseFieldDescriptor (T f).2.2.1 = some ty) (hn : narrow ty v = v) (hfit : fits ty v = true) (hl : f < fs.length) (hd : decode cc pc = .ok (.putfield ix, 3)) (kk : jj p l e R s m args below meth c G nL Q (mp_U M a (.inr (ci, fs.set f v))) k n lv (pc + 3) (st)) : jj p l e R s m args below meth c G nL Q M k n lv (pc) (v :: .ref a :: st) := by
  intro H L ls h1 h2 h3
  have hts := jf_ts F
  have hap := va_apart (own := own) hts hin ty0 hty hnm (jf_k F) hc
  obtain ⟨r, hr1, cell, q1, q2, q3, q4⟩ := h1 a _ ha
  have hr : r = (C, T, N) := Option.some.inj (hr1.symm.trans hc)
  subst hr
  obtain ⟨hS, hfc, kC, hkC, hkind⟩ := (jf_k F).1 ci _ hc
  obtain ⟨cf, kf, fi, fd, hi, hsl⟩ := hS f hf
  have hlay := hts _ (hin _ (u_in_lay hf))
  unfold u_lay at hlay
  rw [if_neg (by rw [hfin]; decide)] at hlay
  have hst := (u_facts hfc hkC (u_lays hts hin hf) hi).1
  have h6 := u_store hfc hkC hkind hlay hi hpd hn hfit
  refine W.putK (jf_x F) (jf_b F) (f := fd) ⟨jf_own F, hts _ hw, ⟨_, _, _, hi⟩, hst⟩ (by rw [q2]; exact h6) q1 q3 (by rw [hsl]; exact k2_hasslot (q4 f hf)) rfl rfl hd fun H1 e1 e2 e3 => ?_
  rw [hsl] at e1 ⊢
  exact kk H1 _ ls (mp_set h1 e3 ⟨_, hc, t_OB.to (V := updV (vp_V fs) f v) ⟨_, e1, q2, q3, t_set q4 hap hf v⟩ (fun j _ => vp_updV_set hl v j)⟩) (h2.put e2 e3 hz) h3
/-- a final field is written in its constructor -/
theorem j_putF (F : jf p l s m args meth c G own cc nL tab) {C : String} {T : u_T} {N ci : Nat} {ix a : Nat} {fs : List Value} {v : Value} {ty : FieldType} (ha : M a = some (.inr (ci, fs))) (hz : G.2.2.1 ≤ a) (hc : cls_L[ci]? = some (C, T, N)) (hin : ∀ w ∈ u_ws C T N, w ∈ tb_ws) (ty0 : Nat → FieldType) (hty : ∀ k, k < N → parseFieldDescriptor (T k).2.2.1 = some (ty0 k)) (hnm : ∀ a, a < N → ∀ b, b < N → a ≠ b → (T a).2.1 ≠ (T b).2.1) (f : Nat) (hf : f < N) (hw : Cond.fieldLink own ix (T f).1 (T f).2.1 (T f).2.2.1 ∈ tb_ws) (hfin : (T f).2.2.2 = true) (hin2 : meth.name = "<init>") (hdecl : (T f).1 = own) (hpd : parseFieldDescriptor (T f).2.2.1 = some ty) (hn : narrow ty v = v) (hfit : fits ty v = true) (hl : f < fs.length) (hd : decode cc pc = .ok (.putfield ix, 3)) (kk : jj p l e R s m args below meth c G nL Q (mp_U M a (.inr (ci, fs.set f v))) k n lv (pc + 3) (st)) : jj p l e R s m args below meth c G nL Q M k n lv (pc) (v :: .ref a :: st) := by
  intro H L ls h1 h2 h3
  have hts := jf_ts F
  have hown := jf_own F
  have hap := va_apart (own := own) hts hin ty0 hty hnm (jf_k F) hc
  obtain ⟨r, hr1, cell, q1, q2, q3, q4⟩ := h1 a _ ha
  have hr : r = (C, T, N) := Option.some.inj (hr1.symm.trans hc)
  subst hr
  obtain ⟨hS, hfc, kC, hkC, hkind⟩ := (jf_k F).1 ci _ hc
  obtain ⟨cf, kf, fi, fd, hi, hsl⟩ := hS f hf
  have hlay := hts _ (hin _ (u_in_lay hf))
  unfold u_lay at hlay
  rw [if_pos hfin] at hlay
  have hst := (u_facts hfc hkC (u_lays hts hin hf) hi).1
  have hcf : m.cls = cf := by
    obtain ⟨_, _, c', _, _, _, -, -, hf', -, -, -, hown2, -⟩ := Cond.laysFinal_spec hlay
    have e1 : c' = cf := by have := hi.symm.trans hf'; simp at this; exact this.1.symm
    rw [hdecl] at hown2
    rw [← e1]; exact Option.some.inj (hown.symm.trans hown2)
  have h6 := u_fits hfc hkC hkind (Or.inr hlay) hi hpd hn hfit
  refine W.putFinK (jf_x F) (jf_b F) hown (hts _ hw) hi hst hcf hin2 (by rw [q2]; exact h6) q1 q3 (by rw [hsl]; exact k2_hasslot (q4 f hf)) rfl rfl hd fun H1 e1 e2 e3 => ?_
  rw [hsl] at e1 ⊢
  exact kk H1 _ ls (mp_set h1 e3 ⟨_, hc, t_OB.to (V := updV (vp_V fs) f v) ⟨_, e1, q2, q3, t_set q4 hap hf v⟩ (fun j _ => vp_updV_set hl v j)⟩) (h2.put e2 e3 hz) h3
theorem j_bald (F : jf p l s m args meth c G own cc nL tab) {a len : Nat} {f : Nat → Int32} {i : Int32} (ha : M a = some (.inl (G.2.1.1, len, .inl f))) (hi : vp_in i len) (hd : decode cc pc = .ok (.baload, 1)) (kk : jj p l e R s m args below meth c G nL Q M k n lv (pc + 1) (.int (f i.toNatClampNeg) :: st)) : jj p l e R s m args below meth c G nL Q M k n lv (pc) (.int i :: .ref a :: st) := fun H L ls h1 h2 h3 => va_bald (jf_x F) (jf_b F) (jf_k F) (mp_one h1 ha) 0 0 rfl rfl hi hd (kk H L ls h1 h2 h3)
theorem j_blen (F : jf p l s m args meth c G own cc nL tab) {a len : Nat} {f : Nat → Int32} {v : Int32} (ha : M a = some (.inl (G.2.1.1, len, .inl f))) (hv : Int32.ofNat len = v) (hd : decode cc pc = .ok (.arraylength, 1)) (kk : jj p l e R s m args below meth c G nL Q M k n lv (pc + 1) (.int v :: st)) : jj p l e R s m args below meth c G nL Q M k n lv (pc) (.ref a :: st) := fun H L ls h1 h2 h3 => va_alen (jf_x F) (jf_b F) (jf_k F) (mp_one h1 ha) 0 0 rfl rfl hv hd (kk H L ls h1 h2 h3)
theorem j_bast (F : jf p l s m args meth c G own cc nL tab) {a len : Nat} {f : Nat → Int32} {i : Int32} {x : Int32} (ha : M a = some (.inl (G.2.1.1, len, .inl f))) (hz : G.2.2.1 ≤ a) (hi : vp_in i len) (hd : decode cc pc = .ok (.bastore, 1)) (kk : jj p l e R s m args below meth c G nL Q (mp_U M a (.inl (G.2.1.1, len, .inl (upd f i.toNatClampNeg (vp_nar .byte x))))) k n lv (pc + 1) (st)) : jj p l e R s m args below meth c G nL Q M k n lv (pc) (.int x :: .int i :: .ref a :: st) := by
  intro H L ls h1 h2 h3
  refine W.bast (jf_x F) (jf_b F) (h1 a _ ha) (((jf_k F).2 0 _ rfl).1 len (fun j => .int (f j))) (fun q => by cases q) (by show ¬ (i < 0 ∨ (arrV _ _ _).slots.size ≤ _); rw [arrV_size]; exact hi) rfl rfl hd fun H1 e1 z oq => ?_
  refine kk H1 _ ls (mp_set h1 oq ?_) (h2.put z oq hz) h3
  show H1[a]? = some (vp_cell _ _)
  rw [e1]
  rw [vp_cell_i, vp_cell_i, arrV_store]
  congr 2
  funext q
  by_cases hq : q = i.toNatClampNeg
  · subst hq
    simp [updV, upd, vp_nar, narrow]
  · simp [updV, upd, hq]
theorem j_iald (F : jf p l s m args meth c G own cc nL tab) {a len : Nat} {f : Nat → Int32} {i : Int32} (ha : M a = some (.inl (G.2.1.2.1, len, .inl f))) (hi : vp_in i len) (hd : decode cc pc = .ok (.iaload, 1)) (kk : jj p l e R s m args below meth c G nL Q M k n lv (pc + 1) (.int (f i.toNatClampNeg) :: st)) : jj p l e R s m args below meth c G nL Q M k n lv (pc) (.int i :: .ref a :: st) := fun H L ls h1 h2 h3 => va_iald (jf_x F) (jf_b F) (jf_k F) (mp_one h1 ha) 0 1 rfl rfl hi hd (kk H L ls h1 h2 h3)
theorem j_ilen (F : jf p l s m args meth c G own cc nL tab) {a len : Nat} {f : Nat → Int32} {v : Int32} (ha : M a = some (.inl (G.2.1.2.1, len, .inl f))) (hv : Int32.ofNat len = v) (hd : decode cc pc = .ok (.arraylength, 1)) (kk : jj p l e R s m args below meth c G nL Q M k n lv (pc + 1) (.int v :: st)) : jj p l e R s m args below meth c G nL Q M k n lv (pc) (.ref a :: st) := fun H L ls h1 h2 h3 => va_alen (jf_x F) (jf_b F) (jf_k F) (mp_one h1 ha) 0 1 rfl rfl hv hd (kk H L ls h1 h2 h3)
theorem j_iast (F : jf p l s m args meth c G own cc nL tab) {a len : Nat} {f : Nat → Int32} {i : Int32} {x : Int32} (ha : M a = some (.inl (G.2.1.2.1, len, .inl f))) (hz : G.2.2.1 ≤ a) (hi : vp_in i len) (hd : decode cc pc = .ok (.iastore, 1)) (kk : jj p l e R s m args below meth c G nL Q (mp_U M a (.inl (G.2.1.2.1, len, .inl (upd f i.toNatClampNeg x)))) k n lv (pc + 1) (st)) : jj p l e R s m args below meth c G nL Q M k n lv (pc) (.int x :: .int i :: .ref a :: st) := by
  intro H L ls h1 h2 h3
  refine W.iast (jf_x F) (jf_b F) (h1 a _ ha) (((jf_k F).2 1 _ rfl).1 len (fun j => .int (f j))) (fun q => by cases q) (by show ¬ (i < 0 ∨ (arrV _ _ _).slots.size ≤ _); rw [arrV_size]; exact hi) rfl rfl hd fun H1 e1 z oq => ?_
  refine kk H1 _ ls (mp_set h1 oq ?_) (h2.put z oq hz) h3
  show H1[a]? = some (vp_cell _ _)
  rw [e1]
  rw [vp_cell_i, vp_cell_i, arrV_store]
  congr 2
  funext q
  by_cases hq : q = i.toNatClampNeg
  · subst hq
    simp [updV, upd]
  · simp [updV, upd, hq]
theorem j_lald (F : jf p l s m args meth c G own cc nL tab) {a len : Nat} {f : Nat → Int64} {i : Int32} (ha : M a = some (.inl (G.2.1.2.2, len, .inr (.inl f)))) (hi : vp_in i len) (hd : decode cc pc = .ok (.laload, 1)) (kk : jj p l e R s m args below meth c G nL Q M k n lv (pc + 1) (.long (f i.toNatClampNeg) :: st)) : jj p l e R s m args below meth c G nL Q M k n lv (pc) (.int i :: .ref a :: st) := fun H L ls h1 h2 h3 => va_lald (jf_x F) (jf_b F) (jf_k F) (mp_one h1 ha) 0 2 rfl rfl hi hd (kk H L ls h1 h2 h3)
theorem j_llen (F : jf p l s m args meth c G own cc nL tab) {a len : Nat} {f : Nat → Int64} {v : Int32} (ha : M a = some (.inl (G.2.1.2.2, len, .inr (.inl f)))) (hv : Int32.ofNat len = v) (hd : decode cc pc = .ok (.arraylength, 1)) (kk : jj p l e R s m args below meth c G nL Q M k n lv (pc + 1) (.int v :: st)) : jj p l e R s m args below meth c G nL Q M k n lv (pc) (.ref a :: st) := fun H L ls h1 h2 h3 => va_alen (jf_x F) (jf_b F) (jf_k F) (mp_one h1 ha) 0 2 rfl rfl hv hd (kk H L ls h1 h2 h3)
theorem j_last (F : jf p l s m args meth c G own cc nL tab) {a len : Nat} {f : Nat → Int64} {i : Int32} {x : Int64} (ha : M a = some (.inl (G.2.1.2.2, len, .inr (.inl f)))) (hz : G.2.2.1 ≤ a) (hi : vp_in i len) (hd : decode cc pc = .ok (.lastore, 1)) (kk : jj p l e R s m args below meth c G nL Q (mp_U M a (.inl (G.2.1.2.2, len, .inr (.inl (vp_updL f i.toNatClampNeg x))))) k n lv (pc + 1) (st)) : jj p l e R s m args below meth c G nL Q M k n lv (pc) (.long x :: .int i :: .ref a :: st) := by
  intro H L ls h1 h2 h3
  refine W.last (jf_x F) (jf_b F) (h1 a _ ha) (((jf_k F).2 2 _ rfl).1 len (fun j => .long (f j))) (fun q => by cases q) (by show ¬ (i < 0 ∨ (arrV _ _ _).slots.size ≤ _); rw [arrV_size]; exact hi) rfl rfl hd fun H1 e1 z oq => ?_
  refine kk H1 _ ls (mp_set h1 oq ?_) (h2.put z oq hz) h3
  show H1[a]? = some (vp_cell _ _)
  rw [e1]
  rw [vp_cell_l, vp_cell_l, arrV_store]
  congr 2
  funext q
  by_cases hq : q = i.toNatClampNeg
  · subst hq
    simp [updV, vp_updL]
  · simp [updV, vp_updL, hq]
theorem j_baldN (F : jf p l s m args meth c G own cc nL tab) {a len w : Nat} {f : Nat → Int32} (ha : M a = some (.inl (G.2.1.1, len, .inl f))) (hw : w < len) (hl : len < 2 ^ 31) (hd : decode cc pc = .ok (.baload, 1)) (kk : jj p l e R s m args below meth c G nL Q M k n lv (pc + 1) (.int (f w) :: st)) : jj p l e R s m args below meth c G nL Q M k n lv (pc) (.int (nI w) :: .ref a :: st) := j_bald F ha (vp_in_nI hw hl) hd (by rw [nI_clamp (by omega)]; exact kk)
theorem j_bastN (F : jf p l s m args meth c G own cc nL tab) {a len w : Nat} {f : Nat → Int32} {x : Int32} (ha : M a = some (.inl (G.2.1.1, len, .inl f))) (hz : G.2.2.1 ≤ a) (hw : w < len) (hl : len < 2 ^ 31) (hx : vp_nar .byte x = x) (hd : decode cc pc = .ok (.bastore, 1)) (kk : jj p l e R s m args below meth c G nL Q (mp_U M a (.inl (G.2.1.1, len, .inl (upd f w x)))) k n lv (pc + 1) (st)) : jj p l e R s m args below meth c G nL Q M k n lv (pc) (.int x :: .int (nI w) :: .ref a :: st) := j_bast F ha hz (vp_in_nI hw hl) hd (by rw [nI_clamp (by omega), hx]; exact kk)
theorem j_ialdN (F : jf p l s m args meth c G own cc nL tab) {a len w : Nat} {f : Nat → Int32} (ha : M a = some (.inl (G.2.1.2.1, len, .inl f))) (hw : w < len) (hl : len < 2 ^ 31) (hd : decode cc pc = .ok (.iaload, 1)) (kk : jj p l e R s m args below meth c G nL Q M k n lv (pc + 1) (.int (f w) :: st)) : jj p l e R s m args below meth c G nL Q M k n lv (pc) (.int (nI w) :: .ref a :: st) := j_iald F ha (vp_in_nI hw hl) hd (by rw [nI_clamp (by omega)]; exact kk)
theorem j_iastN (F : jf p l s m args meth c G own cc nL tab) {a len w : Nat} {f : Nat → Int32} {x : Int32} (ha : M a = some (.inl (G.2.1.2.1, len, .inl f))) (hz : G.2.2.1 ≤ a) (hw : w < len) (hl : len < 2 ^ 31) (hd : decode cc pc = .ok (.iastore, 1)) (kk : jj p l e R s m args below meth c G nL Q (mp_U M a (.inl (G.2.1.2.1, len, .inl (upd f w x)))) k n lv (pc + 1) (st)) : jj p l e R s m args below meth c G nL Q M k n lv (pc) (.int x :: .int (nI w) :: .ref a :: st) := j_iast F ha hz (vp_in_nI hw hl) hd (by rw [nI_clamp (by omega)]; exact kk)
theorem j_laldN (F : jf p l s m args meth c G own cc nL tab) {a len w : Nat} {f : Nat → Int64} (ha : M a = some (.inl (G.2.1.2.2, len, .inr (.inl f)))) (hw : w < len) (hl : len < 2 ^ 31) (hd : decode cc pc = .ok (.laload, 1)) (kk : jj p l e R s m args below meth c G nL Q M k n lv (pc + 1) (.long (f w) :: st)) : jj p l e R s m args below meth c G nL Q M k n lv (pc) (.int (nI w) :: .ref a :: st) := j_lald F ha (vp_in_nI hw hl) hd (by rw [nI_clamp (by omega)]; exact kk)
theorem j_lastN (F : jf p l s m args meth c G own cc nL tab) {a len w : Nat} {f : Nat → Int64} {x : Int64} (ha : M a = some (.inl (G.2.1.2.2, len, .inr (.inl f)))) (hz : G.2.2.1 ≤ a) (hw : w < len) (hl : len < 2 ^ 31) (hd : decode cc pc = .ok (.lastore, 1)) (kk : jj p l e R s m args below meth c G nL Q (mp_U M a (.inl (G.2.1.2.2, len, .inr (.inl (vp_updL f w x))))) k n lv (pc + 1) (st)) : jj p l e R s m args below meth c G nL Q M k n lv (pc) (.long x :: .int (nI w) :: .ref a :: st) := j_last F ha hz (vp_in_nI hw hl) hd (by rw [nI_clamp (by omega)]; exact kk)
theorem j_newb (F : jf p l s m args meth c G own cc nL tab) {z : Int32} {len : Nat} (hw : Cond.arrayClass .byte ∈ tb_ws) (hz : ¬ z < 0) (hl : z.toNatClampNeg = len) (hby : len * componentBytes .byte ≤ 536870912) (hk : k + 1 ≤ R.cells) (hn : n + len ≤ R.slots) (hd : decode cc pc = .ok (.newarray .byte, 2)) (kk : ∀ a : Nat, G.2.2.1 ≤ a → M a = none → jj p l e R s m args below meth c G nL Q (mp_U M a (.inl (G.2.1.1, len, .inl (fun _ => 0)))) (k + 1) (n + len) lv (pc + 2) (.ref a :: st)) : jj p l e R s m args below meth c G nL Q M k n lv (pc) (.int z :: st) := by
  intro H L ls h1 h2 h3
  refine va_newaK (atype := .byte) (jf_x F) (jf_b F) (jf_ts F _ hw) rfl hd rfl hz hl hby hk hn rfl fun H1 cA e1 z1 o1 hAr hNm => ?_
  have hcA : cA = G.2.1.1 := Option.some.inj (hNm.symm.trans ((jf_k F).2 0 _ rfl).2)
  subst hcA
  refine kk H.size (Nat.le_trans (jf_z F) h2.1) ?_ H1 L ls (mp_new h1 o1 ?_) ⟨Nat.le_trans h2.1 (by omega), fun x g1 g2 => (o1 x (Nat.lt_of_lt_of_le g1 h2.1)).trans (h2.2.1 x g1 g2), h2.2.2⟩ h3
  · cases hM : M H.size with
    | none => rfl
    | some e9 => exact absurd (mp_lt h1 hM) (Nat.lt_irrefl _)
  · show H1[H.size]? = some (vp_cell _ _)
    exact e1
theorem j_newi (F : jf p l s m args meth c G own cc nL tab) {z : Int32} {len : Nat} (hw : Cond.arrayClass .int ∈ tb_ws) (hz : ¬ z < 0) (hl : z.toNatClampNeg = len) (hby : len * componentBytes .int ≤ 536870912) (hk : k + 1 ≤ R.cells) (hn : n + len ≤ R.slots) (hd : decode cc pc = .ok (.newarray .int, 2)) (kk : ∀ a : Nat, G.2.2.1 ≤ a → M a = none → jj p l e R s m args below meth c G nL Q (mp_U M a (.inl (G.2.1.2.1, len, .inl (fun _ => 0)))) (k + 1) (n + len) lv (pc + 2) (.ref a :: st)) : jj p l e R s m args below meth c G nL Q M k n lv (pc) (.int z :: st) := by
  intro H L ls h1 h2 h3
  refine va_newaK (atype := .int) (jf_x F) (jf_b F) (jf_ts F _ hw) rfl hd rfl hz hl hby hk hn rfl fun H1 cA e1 z1 o1 hAr hNm => ?_
  have hcA : cA = G.2.1.2.1 := Option.some.inj (hNm.symm.trans ((jf_k F).2 1 _ rfl).2)
  subst hcA
  refine kk H.size (Nat.le_trans (jf_z F) h2.1) ?_ H1 L ls (mp_new h1 o1 ?_) ⟨Nat.le_trans h2.1 (by omega), fun x g1 g2 => (o1 x (Nat.lt_of_lt_of_le g1 h2.1)).trans (h2.2.1 x g1 g2), h2.2.2⟩ h3
  · cases hM : M H.size with
    | none => rfl
    | some e9 => exact absurd (mp_lt h1 hM) (Nat.lt_irrefl _)
  · show H1[H.size]? = some (vp_cell _ _)
    exact e1
theorem j_newl (F : jf p l s m args meth c G own cc nL tab) {z : Int32} {len : Nat} (hw : Cond.arrayClass .long ∈ tb_ws) (hz : ¬ z < 0) (hl : z.toNatClampNeg = len) (hby : len * componentBytes .long ≤ 536870912) (hk : k + 1 ≤ R.cells) (hn : n + len ≤ R.slots) (hd : decode cc pc = .ok (.newarray .long, 2)) (kk : ∀ a : Nat, G.2.2.1 ≤ a → M a = none → jj p l e R s m args below meth c G nL Q (mp_U M a (.inl (G.2.1.2.2, len, .inr (.inl (fun _ => 0))))) (k + 1) (n + len) lv (pc + 2) (.ref a :: st)) : jj p l e R s m args below meth c G nL Q M k n lv (pc) (.int z :: st) := by
  intro H L ls h1 h2 h3
  refine va_newaK (atype := .long) (jf_x F) (jf_b F) (jf_ts F _ hw) rfl hd rfl hz hl hby hk hn rfl fun H1 cA e1 z1 o1 hAr hNm => ?_
  have hcA : cA = G.2.1.2.2 := Option.some.inj (hNm.symm.trans ((jf_k F).2 2 _ rfl).2)
  subst hcA
  refine kk H.size (Nat.le_trans (jf_z F) h2.1) ?_ H1 L ls (mp_new h1 o1 ?_) ⟨Nat.le_trans h2.1 (by omega), fun x g1 g2 => (o1 x (Nat.lt_of_lt_of_le g1 h2.1)).trans (h2.2.1 x g1 g2), h2.2.2⟩ h3
  · cases hM : M H.size with
    | none => rfl
    | some e9 => exact absurd (mp_lt h1 hM) (Nat.lt_irrefl _)
  · show H1[H.size]? = some (vp_cell _ _)
    exact e1
theorem j_new (F : jf p l s m args meth c G own cc nL tab) {C : String} {T : u_T} {N ci : Nat} {ix : Nat} {fs : List Value} (hc : cls_L[ci]? = some (C, T, N)) (hin : ∀ w ∈ u_ws C T N, w ∈ tb_ws) (ty : Nat → FieldType) (hty : ∀ k, k < N → parseFieldDescriptor (T k).2.2.1 = some (ty k)) (w1 : Cond.classLink own ix C ∈ tb_ws) (w2 : Cond.instantiable C N ∈ tb_ws) (w3 : Cond.initialized C ∈ tb_ws) (hfs : ∀ j, j < N → defaultValue (ty j) = vp_V fs j) (hk : k + 1 ≤ R.cells) (hn : n + N ≤ R.slots) (hd : decode cc pc = .ok (.new ix, 3)) (kk : ∀ a : Nat, G.2.2.1 ≤ a → M a = none → jj p l e R s m args below meth c G nL Q (mp_U M a (.inr (ci, fs))) (k + 1) (n + N) lv (pc + 3) (.ref a :: st)) : jj p l e R s m args below meth c G nL Q M k n lv (pc) (st) := by
  intro H L ls h1 h2 h3
  have hKn := (jf_k F).1 ci _ hc
  refine W.newcK (jf_x F) (jf_b F) (jf_own F) (jf_ts F _ w1) (jf_ts F _ w2) (jf_ts F _ w3) rfl hd hk hn hKn.2.1 rfl fun H1 kC hkC e1 z1 o1 => ?_
  refine kk H.size (Nat.le_trans (jf_z F) h2.1) ?_ H1 L ls (mp_new h1 o1 ?_) ⟨Nat.le_trans h2.1 (by omega), fun x g1 g2 => (o1 x (Nat.lt_of_lt_of_le g1 h2.1)).trans (h2.2.1 x g1 g2), h2.2.2⟩ h3
  · cases hM : M H.size with
    | none => rfl
    | some e9 => exact absurd (mp_lt h1 hM) (Nat.lt_irrefl _)
  · exact ⟨_, hc, (u_born ty (jf_ts F) hin hKn hkC e1 hty).to hfs⟩
/-- Object.<init> -/
theorem j_obj (F : jf p l s m args meth c G own cc nL tab) {ix a : Nat} (w1 : Cond.methodLink own ix Lib.objectInit ∈ tb_ws) (w2 : Cond.instanceMethod Lib.objectInit ∈ tb_ws) (w3 : Cond.code Lib.objectInit ⟨#[0xb1]⟩ 1 none ∈ tb_ws) (hR : 1 ≤ R.frames) (hW : (st.map fun v => v.category).sum + 12 ≤ R.locals) (hd : decode cc pc = .ok (.invokespecial ix, 3)) (kk : jj p l e R s m args below meth c G nL Q M k n lv (pc + 3) (st)) : jj p l e R s m args below meth c G nL Q M k n lv (pc) (.ref a :: st) := fun H L ls h1 h2 h3 =>
  W.objInit (jf_x F) (jf_b F) (jf_own F) (jf_ts F _ w1) (jf_ts F _ w2) (jf_ts F _ w3) (g := F0 m pc ls (.ref a :: st)) rfl (h3.1.trans (jf_ml F).symm) rfl hd hR (by show 2 * 0 + _ + 12 ≤ _; omega) (kk H L ls h1 h2 h3)
theorem j_min (F : jf p l s m args meth c G own cc nL tab) {ix : Nat} {x y : Int32} (w1 : Cond.methodLink own ix Lib.Math.min.name ∈ tb_ws) (w2 : Cond.static Lib.Math.min.name ∈ tb_ws) (w3 : Cond.initialized "java/lang/Math" ∈ tb_ws) (w4 : Cond.code Lib.Math.min.name Lib.Math.min.code 2 (some .int) ∈ tb_ws) (hR : 1 ≤ R.frames) (hW : (st.map fun v => v.category).sum + 13 ≤ R.locals) (hk : k ≤ R.cells) (hn : n ≤ R.slots) (hd : decode cc pc = .ok (.invokestatic ix, 3)) (kk : jj p l e R s m args below meth c G nL Q M k n lv (pc + 3) (.int (if y < x then y else x) :: st)) : jj p l e R s m args below meth c G nL Q M k n lv (pc) (.int y :: .int x :: st) := fun H L ls h1 h2 h3 =>
  va_mmin (jf_x F) (jf_b F) ((jf_ml F).trans h3.1.symm) (jf_own F) (jf_ts F _ w1) (jf_ts F _ w2) (jf_ts F _ w3) (jf_ts F _ w4) hR hW hk hn hd (kk H L ls h1 h2 h3)
theorem j_max (F : jf p l s m args meth c G own cc nL tab) {ix : Nat} {x y : Int32} (w1 : Cond.methodLink own ix Lib.Math.max.name ∈ tb_ws) (w2 : Cond.static Lib.Math.max.name ∈ tb_ws) (w3 : Cond.initialized "java/lang/Math" ∈ tb_ws) (w4 : Cond.code Lib.Math.max.name Lib.Math.max.code 2 (some .int) ∈ tb_ws) (hR : 1 ≤ R.frames) (hW : (st.map fun v => v.category).sum + 13 ≤ R.locals) (hk : k ≤ R.cells) (hn : n ≤ R.slots) (hd : decode cc pc = .ok (.invokestatic ix, 3)) (kk : jj p l e R s m args below meth c G nL Q M k n lv (pc + 3) (.int (if x < y then y else x) :: st)) : jj p l e R s m args below meth c G nL Q M k n lv (pc) (.int y :: .int x :: st) := fun H L ls h1 h2 h3 =>
  va_mmax (jf_x F) (jf_b F) ((jf_ml F).trans h3.1.symm) (jf_own F) (jf_ts F _ w1) (jf_ts F _ w2) (jf_ts F _ w3) (jf_ts F _ w4) hR hW hk hn hd (kk H L ls h1 h2 h3)
/-- the static that holds the empty key; that key's length -/
theorem j_gets (F : jf p l s m args meth c G own cc nL tab) {ix : Nat} (hw : Cond.fieldLink own ix "MomentTree" "BEFORE_ALL_KEYS" "[B" ∈ tb_ws) (hd : decode cc pc = .ok (.getstatic ix, 3)) (kk : jj p l e R s m args below meth c G nL Q M k n lv (pc + 3) (.ref G.2.2.2 :: st)) : jj p l e R s m args below meth c G nL Q M k n lv (pc) (st) := fun H L ls h1 h2 h3 =>
  va_gets (jf_x F) (jf_b F) (jf_sx F).2.2.1 h2 (jf_own F) (jf_ts F _ hw) (fun _ h => h) hd (kk H L ls h1 h2 h3)
theorem j_tlen (F : jf p l s m args meth c G own cc nL tab) (hd : decode cc pc = .ok (.arraylength, 1)) (kk : jj p l e R s m args below meth c G nL Q M k n lv (pc + 1) (.int 0 :: st)) : jj p l e R s m args below meth c G nL Q M k n lv (pc) (.ref G.2.2.2 :: st) := fun H L ls h1 h2 h3 =>
  va_tlen (jf_x F) (jf_b F) (jf_sx F).2.2.2.1 h2 (v := 0) rfl hd (kk H L ls h1 h2 h3)
/-- the script -/
theorem j_sld (F : jf p l s m args meth c G own cc nL tab) {b0 len w : Nat} {xs : Nat → Int32} (hX : va_X b0 len xs s s.heap) (hbl : b0 < s.heap.size) (hbA : ¬ ge_A G b0) (hw : w < len) (hlen : len < 2 ^ 31) (hd : decode cc pc = .ok (.iaload, 1)) (kk : jj p l e R s m args below meth c G nL Q M k n lv (pc + 1) (.int (xs w) :: st)) : jj p l e R s m args below meth c G nL Q M k n lv (pc) (.int (nI w) :: .ref b0 :: st) := fun H L ls h1 h2 h3 =>
  va_sld (jf_x F) (jf_b F) hX hbl hbA h2 (vp_in_nI hw hlen) hd (by rw [nI_clamp (by omega)]; exact (kk H L ls h1 h2 h3))
theorem j_slen (F : jf p l s m args meth c G own cc nL tab) {b0 len : Nat} {xs : Nat → Int32} (hX : va_X b0 len xs s s.heap) (hbl : b0 < s.heap.size) (hbA : ¬ ge_A G b0) (hd : decode cc pc = .ok (.arraylength, 1)) (kk : jj p l e R s m args below meth c G nL Q M k n lv (pc + 1) (.int (nI len) :: st)) : jj p l e R s m args below meth c G nL Q M k n lv (pc) (.ref b0 :: st) := fun H L ls h1 h2 h3 =>
  va_slen (jf_x F) (jf_b F) hX hbl hbA h2 hd (kk H L ls h1 h2 h3)
/-- System.arraycopy between two arrays of bytes (the row va_copyi of the kit, turned to maps) -/
theorem j_copy (F : jf p l s m args meth c G own cc nL tab) {ix a a0 n0 n1 : Nat} {f g : Nat → Int32} {sp dp z : Int32} (w1 : Cond.methodLink own ix arraycopyName ∈ tb_ws) (w2 : Cond.native arraycopyName ∈ tb_ws) (w3 : Cond.static arraycopyName ∈ tb_ws) (w4 : Cond.initialized "java/lang/System" ∈ tb_ws) (ha0 : M a0 = some (.inl (G.2.1.1, n0, .inl f))) (ha1 : M a = some (.inl (G.2.1.1, n1, .inl g))) (hz : G.2.2.1 ≤ a) (h1' : ¬ sp < 0) (h2' : ¬ dp < 0) (h3' : ¬ z < 0) (h4' : sp.toNatClampNeg + z.toNatClampNeg ≤ n0) (h5' : dp.toNatClampNeg + z.toNatClampNeg ≤ n1) (hfit : ∀ i, i < z.toNatClampNeg → fits .byte (.int (f (sp.toNatClampNeg + i))) = true) (hR : 1 ≤ R.frames) (hW : (st.map fun v => v.category).sum + (nativeFrameWords "java/lang/System" "arraycopy" 5 + 11) ≤ R.locals) (hd : decode cc pc = .ok (.invokestatic ix, 3)) (kk : jj p l e R s m args below meth c G nL Q (mp_U M a (.inl (G.2.1.1, n1, .inl (va_cpy f g sp.toNatClampNeg dp.toNatClampNeg z.toNatClampNeg)))) k n lv (pc + 3) (st)) : jj p l e R s m args below meth c G nL Q M k n lv (pc) (.int z :: .int dp :: .ref a :: .int sp :: .ref a0 :: st) := by
  intro H L ls h1 h2 h3 T hT X'
  have nn : ∀ z : Int32, ¬ z < 0 → z.toInt = (z.toNatClampNeg : Int) := by
    intro z hz
    have hz0 : (0 : Int) ≤ z.toInt := by
      have := Int32.not_lt.mp hz
      simpa using Int32.le_iff_toInt_le.mp this
    show z.toInt = ((z.toInt.toNat : Nat) : Int)
    omega
  have hml : c.maxLocals = ls.size := (jf_ml F).trans h3.1.symm
  have hc0 : H[a0]? = some (vp_cell G.2.1.1 (n0, .inl f)) := h1 a0 _ ha0
  have hc1 : H[a]? = some (vp_cell G.2.1.1 (n1, .inl g)) := h1 a _ ha1
  obtain ⟨-, k0, hk0, cm0, hkk0⟩ := ((jf_k F).2 0 _ rfl).1 n0 (fun j => .int (f j))
  obtain ⟨-, k1, hk1, cm1, hkk1⟩ := ((jf_k F).2 0 _ rfl).1 n1 (fun j => .int (g j))
  obtain ⟨vm', X2, step⟩ := X'.arraycopy (jf_x F) (jf_own F) (jf_ts F _ w1) (jf_ts F _ w2) (jf_ts F _ w3) (jf_ts F _ w4) (src := a0) (dst := a) (cs := vp_cell G.2.1.1 (n0, .inl f)) (cd := vp_cell G.2.1.1 (n1, .inl g)) (srcPos := sp) (destPos := dp) (n := z) (by rw [hT]; exact hc0) (by rw [hT]; exact hc1)
    (fun _ h => by cases h) (fun _ h => by cases h) (fun h => by cases h) (fun h => by cases h) hk0 hk1 hkk0 hkk1 (by simp) h1' h2' h3'
    (by rw [nn sp h1', nn z h3']; show ¬ _ > ((arrV G.2.1.1 n0 (fun j => .int (f j))).slots.size : Int); rw [arrV_size]; omega)
    (by rw [nn dp h2', nn z h3']; show ¬ _ > ((arrV G.2.1.1 n1 (fun j => .int (g j))).slots.size : Int); rw [arrV_size]; omega)
    (fun vm₁ _ i hi => by
      have e : (vp_cell G.2.1.1 (n0, .inl f)).slots.getD (sp.toNatClampNeg + i) .null = .int (f (sp.toNatClampNeg + i)) := by
        show (arrV G.2.1.1 n0 (fun j => .int (f j))).slots.getD _ _ = _
        rw [Array.getD_eq_getD_getElem?, arrV_read _ _ (by omega)]
        rfl
      refine ⟨?_, ?_⟩
      · rw [e]
        exact hfit i hi
      · rw [e]
        exact trivial)
    (g := F0 m pc ls (.int z :: .int dp :: .ref a :: .int sp :: .ref a0 :: st)) rfl (by rw [hml]) (rest := st) rfl (by rw [jf_b F]; exact hd) hR (by show 2 * 0 + _ + _ ≤ _; omega)
  have e1 : copied (vp_cell G.2.1.1 (n0, .inl f)) (vp_cell G.2.1.1 (n1, .inl g)) sp dp z = vp_cell G.2.1.1 (n1, .inl (va_cpy f g sp.toNatClampNeg dp.toNatClampNeg z.toNatClampNeg)) := va_copied (fun z => .int z) G.2.1.1 G.2.1.1 f g h4'
  rw [e1] at X2 step
  have hl : a < H.size := (Array.getElem?_eq_some_iff.mp hc1).1
  have hheap : ((T.setVm vm').setCell a (vp_cell G.2.1.1 (n1, .inl (va_cpy f g sp.toNatClampNeg dp.toNatClampNeg z.toNatClampNeg)))).heap = H.setIfInBounds a (vp_cell G.2.1.1 (n1, .inl (va_cpy f g sp.toNatClampNeg dp.toNatClampNeg z.toNatClampNeg))) := by rw [← hT]; rfl
  have oq : ∀ q : Nat, q ≠ a → (H.setIfInBounds a (vp_cell G.2.1.1 (n1, .inl (va_cpy f g sp.toNatClampNeg dp.toNatClampNeg z.toNatClampNeg))))[q]? = H[q]? := fun q hq => by simp [Array.getElem?_setIfInBounds, Ne.symm hq]
  obtain ⟨t, a1, b1⟩ := kk _ _ ls (mp_set h1 oq (show (H.setIfInBounds a _)[a]? = some _ by simp [Array.getElem?_setIfInBounds, hl])) ⟨by simp; exact h2.1, fun q g1 g2 => by
      rw [oq q (fun e => g2 (by rw [e]; exact hz))]
      exact h2.2.1 q g1 g2, fun q hq => by
      rcases List.mem_append.mp hq with h | h
      · exact h2.2.2 q h
      · obtain ⟨z, -, hz9⟩ := List.mem_map.mp h
        rw [← hz9]
        exact hz⟩ h3 _ hheap X2
  exact ⟨t, step t a1, b1⟩
theorem wd_end (F : jf p l s m args meth c G own cc nL tab) {H : Heap} {L : List Loc} {t : State} (h1 : mp_P G.1 cls_L M H) (h2 : va_S (ge_A G) s.heap H L) (ht : t.heap = H) (hvm : s.vm.Alike t.vm) : wd_W G M t := by
  refine ⟨?_, by rw [ht]; exact h1, gk_moved hvm (jf_k F), ?_⟩
  · rw [ht]; exact Nat.le_trans (jf_z F) h2.1
  · rw [ht]; exact sx_moved hvm (sx_kept (jf_sx F) h2.2.1)
theorem j_iret (F : jf p l s m args meth c G own cc nL tab) {rm : Room} {po : Option Value → mp_T → Prop} {px : String → mp_T → Prop} {v : Int32} (hr : meth.sig.returnType = some .int) (hk : k ≤ rm.cells) (hn : n ≤ rm.slots) (hp : po (some (.int v)) M) (hd : decode cc pc = .ok (.ireturn, 1)) : jj p l e rm s m args below meth c G nL (jq_Q below G po px args s rm) M k n lv pc ([.int v]) := fun H L ls h1 h2 h3 => W.widen hk hn (vx_ret (W.iret (jf_x F) (jf_b F) hr (fun t ht hW => ⟨⟨_, M, rfl, hp, wd_end F h1 h2 ht hW.alike⟩, h2.F ht⟩) h2.2.2 hd (jf_lk F)))
theorem j_zret (F : jf p l s m args meth c G own cc nL tab) {rm : Room} {po : Option Value → mp_T → Prop} {px : String → mp_T → Prop} {v : Int32} (hr : meth.sig.returnType = some .boolean) (hv : narrow .boolean (.int v) = .int v) (hk : k ≤ rm.cells) (hn : n ≤ rm.slots) (hp : po (some (.int v)) M) (hd : decode cc pc = .ok (.ireturn, 1)) : jj p l e rm s m args below meth c G nL (jq_Q below G po px args s rm) M k n lv pc ([.int v]) := fun H L ls h1 h2 h3 => W.widen hk hn (vx_ret (W.zret (jf_x F) (jf_b F) hr hv (fun t ht hW => ⟨⟨_, M, rfl, hp, wd_end F h1 h2 ht hW.alike⟩, h2.F ht⟩) h2.2.2 hd (jf_lk F)))
theorem j_lret (F : jf p l s m args meth c G own cc nL tab) {rm : Room} {po : Option Value → mp_T → Prop} {px : String → mp_T → Prop} {v : Int64} (hr : meth.sig.returnType = some .long) (hk : k ≤ rm.cells) (hn : n ≤ rm.slots) (hp : po (some (.long v)) M) (hd : decode cc pc = .ok (.lreturn, 1)) : jj p l e rm s m args below meth c G nL (jq_Q below G po px args s rm) M k n lv pc ([.long v]) := fun H L ls h1 h2 h3 => W.widen hk hn (vx_ret (W.lret (jf_x F) (jf_b F) hr (fun t ht hW => ⟨⟨_, M, rfl, hp, wd_end F h1 h2 ht hW.alike⟩, h2.F ht⟩) h2.2.2 hd (jf_lk F)))
theorem j_vret (F : jf p l s m args meth c G own cc nL tab) {rm : Room} {po : Option Value → mp_T → Prop} {px : String → mp_T → Prop} (hr : meth.sig.returnType = none) (hk : k ≤ rm.cells) (hn : n ≤ rm.slots) (hp : po none M) (hd : decode cc pc = .ok (.return_, 1)) : jj p l e rm s m args below meth c G nL (jq_Q below G po px args s rm) M k n lv pc ([]) := fun H L ls h1 h2 h3 => W.widen hk hn (vx_ret (W.vret (jf_x F) (jf_b F) hr (fun t ht hW => ⟨⟨_, M, rfl, hp, wd_end F h1 h2 ht hW.alike⟩, h2.F ht⟩) h2.2.2 hd (jf_lk F)))
theorem j_aret (F : jf p l s m args meth c G own cc nL tab) {rm : Room} {po : Option Value → mp_T → Prop} {px : String → mp_T → Prop} {v : Value} {rt : FieldType} (hr : meth.sig.returnType = some rt) (hrt : (∃ n, rt = .object n) ∨ ∃ t, rt = .array t) (hv : v = .null ∨ ∃ a, v = .ref a) (hk : k ≤ rm.cells) (hn : n ≤ rm.slots) (hp : po (some v) M) (hd : decode cc pc = .ok (.areturn, 1)) : jj p l e rm s m args below meth c G nL (jq_Q below G po px args s rm) M k n lv pc ([v]) := fun H L ls h1 h2 h3 => W.widen hk hn (vx_ret (W.aret (jf_x F) (jf_b F) hr hrt hv (fun t ht hW => ⟨⟨_, M, rfl, hp, wd_end F h1 h2 ht hW.alike⟩, h2.F ht⟩) h2.2.2 hd (jf_lk F)))
theorem j_cret (F : jf p l s m args meth c G own cc nL tab) {rm : Room} {po : Option Value → mp_T → Prop} (hr : meth.sig.returnType = none) (hk : k ≤ rm.cells) (hn : n ≤ rm.slots) (hp : po none M) (hd : decode cc pc = .ok (.return_, 1)) : jj p l e rm s m args below meth c G nL (MQ below (cq_Q G po) args s rm.cells rm.slots (ge_A G)) M k n lv pc [] := fun H L ls h1 h2 h3 => W.widen hk hn (W.vret (jf_x F) (jf_b F) hr (fun t ht hW => ⟨⟨_, M, rfl, hp, wd_end F h1 h2 ht hW.alike⟩, h2.F ht⟩) h2.2.2 hd (jf_lk F))
theorem rf_or (r : Option Nat) : va_rf r = .null ∨ ∃ a, va_rf r = .ref a := by
  cases r with
  | none => exact Or.inl rfl
  | some a => exact Or.inr ⟨a, rfl⟩
/-- throw new E(): new; dup; invokespecial; athrow -/
theorem j_throw (F : jf p l s m args meth c G own cc nL tab) {rm : Room} {po : Option Value → mp_T → Prop} {px : String → mp_T → Prop} {ik ic : Nat} {E : String} {names : List String} (hE : Bundle.fit E = true) (hnames : ∀ x ∈ names, Bundle.fit x = true) (w1 : Cond.classLink own ik E ∈ tb_ws) (w2 : Cond.initialized E ∈ tb_ws) (w3 : ∀ w ∈ (vx_at0 own ic E names).filter goodWord, w ∈ tb_ws) (w4 : ∀ w ∈ (vx_at0 own ic E names).filter (fun w => !goodWord w), w ∈ Cond.castable E E :: dc_M.map Cond.declares) (hca : va_Nw (.castable E E) s) (hgood : ∀ w ∈ Cond.classLink own ik E :: Cond.initialized E :: vx_at0 own ic E names, vx_ot w = true) (ht : tab = []) (hRf : names.length + 3 < rm.frames) (hRl : (st.map fun v => v.category).sum + (13 * (names.length + 1) + 42) ≤ rm.locals) (hk : k + 1 ≤ rm.cells) (hn : n + 6 ≤ rm.slots) (hp : px E M) (d0 : decode cc pc = .ok (.new ik, 3)) (d3 : decode cc (pc + 3) = .ok (.dup, 1)) (d4 : decode cc (pc + 4) = .ok (.invokespecial ic, 3)) (d7 : decode cc (pc + 7) = .ok (.athrow, 1)) : jj p l e rm s m args below meth c G nL (jq_Q below G po px args s rm) M k n lv pc (st) := fun H L ls h1 h2 h3 =>
  vx_throw0 (jf_x F) (jf_b F) (jf_tr F) (jf_own F) hE hnames (jf_ts F _ w1) (jf_ts F _ w2) (vx_hat (L := vx_at0 own ic E names) (B := Cond.castable E E :: dc_M.map Cond.declares) (fun w hw => jf_ts F w (w3 w hw)) w4 (vx_c (va_Nw.use rfl hca) (fun w hw => by obtain ⟨x9, hx9, rfl⟩ := List.mem_map.mp hw; exact va_Nw.use rfl ((jf_sx F).2.2.2.2.2.2.2.2.2.2.2 x9 hx9)))) hgood (jf_sx F).1 (jf_sx F).2.1 h2 (h3.1.trans (jf_ml F).symm) d0 d3 d4 d7 (fun x hx => by rw [jf_tab F, ht] at hx; cases hx) hRf hRl hk hn (jf_lk F)
    (fun t hvm hz hq => ⟨M, hp, ⟨Nat.le_trans (jf_z F) (Nat.le_trans h2.1 hz), mp_kept h1 hq, gk_moved hvm (jf_k F), sx_moved hvm (sx_kept (jf_sx F) (fun a g1 g2 => (hq a (Nat.lt_of_lt_of_le g1 h2.1)).trans (h2.2.1 a g1 g2)))⟩, Nat.le_trans h2.1 hz, fun a g1 g2 => (hq a (Nat.lt_of_lt_of_le g1 h2.1)).trans (h2.2.1 a g1 g2)⟩) h2.2.2 hk hn
/-- an exception leaves the method -/
theorem j_out (F : jf p l s m args meth c G own cc nL tab) {rm : Room} {po : Option Value → mp_T → Prop} {px : String → mp_T → Prop} {E : String} (ht : tab = []) (hk : k ≤ rm.cells) (hn : n ≤ rm.slots) (hp : px E M) : jx p l e rm s m args below meth c G nL (jq_Q below G po px args s rm) M k n lv pc st E := fun H L ls q ce h1 h2 h3 hce hcv hcl =>
  vx_out (fun x hx => by rw [jf_tab F, ht] at hx; cases hx) (jf_lk F) hce hcv hcl (fun t ht hvm => ⟨M, hp, wd_end F h1 h2 ht hvm, h2.F ht⟩) h2.2.2 hk hn
theorem wd_blind (G : gv_T) (M : mp_T) (av : List Value) : FrameBlind (va_Pc av (wd_W G M)) := by
  intro a U g mk h
  obtain ⟨h0, h1, h2, h3, h4⟩ := h
  exact ⟨h0, h1, h2, gk_moved (u := U) (U := U.calling g mk a) (Vm.Alike.refl U.vm) h3, sx_moved (u := U) (U := U.calling g mk a) (Vm.Alike.refl U.vm) h4⟩
theorem j_pre (F : jf p l s m args meth c G own cc nL tab) {H : Heap} {L : List Loc} (av : List Value) (h1 : mp_P G.1 cls_L M H) (h2 : va_S (ge_A G) s.heap H L) : PreS s H (va_Pc av (wd_W G M)) av := ⟨wd_blind G M av, fun U hU hW => ⟨rfl, wd_end F h1 h2 hU hW.alike⟩⟩
theorem j_run {mc ms : Nat} {a : Array Value} {po : Option Value → mp_T → Prop} {px : String → mp_T → Prop} {rest st0 : List Value} (hr : ∀ (H : Heap) (locs : List Loc) (ls : Array Slot), mp_P G.1 cls_L M H → va_S (ge_A G) s.heap H locs → lv_has ls nL lv → vx_Run p l e R s m args below meth c H locs k n mc ms (F0 m pc ls st0) rest (cq_Q G po a) (cx_X G px) (ge_A G)) (kx : ∀ (E : String) (M1 : mp_T), px E M1 → jx p l e R s m args below meth c G nL Q M1 (k + mc) (n + ms) lv pc rest E) (kk : ∀ (v : Option Value) (M1 : mp_T), po v M1 → jj p l e R s m args below meth c G nL Q M1 (k + mc) (n + ms) lv (pc + 3) (v.toList ++ rest)) : jj p l e R s m args below meth c G nL Q M k n lv (pc) (st0) := by
  intro H L ls h1 h2 h3 T hT X
  rcases hr H L ls h1 h2 h3 T hT X with ⟨v, st₀, t, T', L', h0, X', hL, e1, e2, ⟨⟨v', M', hv, hp, hw⟩, hF⟩, stp⟩ | ⟨q, st₀, t, T', L', E, ce, h0, X', hL, e1, e2, ⟨M', hp, hw, hF⟩, hce, hcv, hcl, stp⟩
  · cases hv
    obtain ⟨k1, k2, k3⟩ := vx_keep h0 e1 h2 (fun _ _ h => h) (fun _ h => h) hL hF
    obtain ⟨t2, a1, b1⟩ := kk v M' hp T'.heap (L ++ L') ls (by rw [e1]; exact hw.2.1) k3 h3 T' rfl X'
    exact ⟨t2, stp t2 a1, b1⟩
  · obtain ⟨k1, k2, k3⟩ := vx_keep h0 e1 h2 (fun _ _ h => h) (fun _ h => h) hL hF
    obtain ⟨t2, a1, b1⟩ := kx E M' hp T'.heap (L ++ L') ls q ce (by rw [e1]; exact hw.2.1) k3 h3 (by rw [e1]; exact hce) hcv hcl T' rfl X'
    exact ⟨t2, stp.trans a1, b1⟩
theorem tb_good {ws : List Cond} (h : ∀ w ∈ ws, w ∈ tb_ws) : GoodIn tb_ws ws := fun w hw => ⟨h w hw, good_of_word (List.mem_filter.mp (h w hw)).2⟩
theorem tb_s {own : String} {ix : Nat} {y : MethodName} {w : Cond} (w1 : Cond.methodLink own ix y ∈ tb_ws) (w2 : Cond.static y ∈ tb_ws) (w3 : Cond.initialized y.cls ∈ tb_ws) (w4 : w ∈ tb_ws) : ∀ x ∈ va_wsS own ix y (w :: tb_ws), x ∈ tb_ws := by
  intro x hx
  simp only [va_wsS, List.mem_append, List.mem_cons, List.not_mem_nil, or_false] at hx
  rcases hx with (h | h | h) | h | h
  · rw [h]; exact w1
  · rw [h]; exact w2
  · rw [h]; exact w3
  · rw [h]; exact w4
  · exact h
theorem tb_v {own : String} {ix : Nat} {y : MethodName} {w : Cond} (w1 : Cond.methodLink own ix y ∈ tb_ws) (w2 : Cond.instanceMethod y ∈ tb_ws) (w3 : Cond.selects y.cls y y ∈ tb_ws) (w0 : Cond.initialized y.cls ∈ tb_ws) (w4 : w ∈ tb_ws) : ∀ x ∈ wsV own ix y.cls y (w :: tb_ws), x ∈ tb_ws := by
  intro x hx
  simp only [wsV, List.mem_append, List.mem_cons, List.not_mem_nil, or_false] at hx
  rcases hx with (h | h | h | h) | h | h
  · rw [h]; exact w1
  · rw [h]; exact w2
  · rw [h]; exact w3
  · rw [h]; exact w0
  · rw [h]; exact w4
  · exact h
/-- a static method is called -/
theorem j_callS (F : jf p l s m args meth c G own cc nL tab) {y : MethodName} {code1 : ByteArray} {maxL : Nat} {ret : Option FieldType} {rm1 : Room} {av : List Value} {po : Option Value → mp_T → Prop} {px : String → mp_T → Prop} {ix : Nat} {rest st0 : List Value} (nA : Nat) (hM : ct_C l G y code1 maxL ret rm1 av M po px) (w1 : Cond.methodLink own ix y ∈ tb_ws) (w2 : Cond.static y ∈ tb_ws) (w3 : Cond.initialized y.cls ∈ tb_ws) (w4 : Cond.code y code1 maxL ret ∈ tb_ws) (hdn : y.cls ≠ "java/lang/invoke/MethodHandle" ∧ y.cls ≠ "java/lang/invoke/VarHandle" ∧ (parseMethodDescriptor y.desc).map (fun d => d.parameters.length) = some nA) (hR : rm1.frames + 1 ≤ R.frames ∧ 8 + (maxL + 11) + rm1.locals ≤ R.locals) (hna : av.length = nA) (hst : st0 = av.reverse ++ rest) (hW : (rest.map fun v => v.category).sum ≤ 8) (hk : k + rm1.cells ≤ R.cells) (hn : n + rm1.slots ≤ R.slots) (hd : decode cc pc = .ok (.invokestatic ix, 3)) (kx : ∀ (E : String) (M1 : mp_T), px E M1 → jx p l e R s m args below meth c G nL Q M1 (k + rm1.cells) (n + rm1.slots) lv pc rest E) (kk : ∀ (v : Option Value) (M1 : mp_T), po v M1 → jj p l e R s m args below meth c G nL Q M1 (k + rm1.cells) (n + rm1.slots) lv (pc + 3) (v.toList ++ rest)) : jj p l e R s m args below meth c G nL Q M k n lv (pc) (st0) :=
  j_run (a := av.toArray) (fun H L ls h1 h2 h3 => vx_runS (Ts := tb_ws) (g := F0 m pc ls st0) ⟨jf_x F, jf_b F, jf_ml F, jf_own F, jf_ts F⟩ hM (va_cwS nA (jf_ts F) (tb_good (tb_s w1 w2 w3 w4)) rfl rfl rfl hdn hR) (j_pre F av h1 h2) rfl hna h3.1 hst (lv_room hW) hd ⟨hk, hn⟩) kx kk
/-- .. with an exception table of its own -/
theorem j_callH (F : jf p l s m args meth c G own cc nL tab) {y : MethodName} {code1 : ByteArray} {maxL : Nat} {ret : Option FieldType} {rm1 : Room} {av : List Value} {po : Option Value → mp_T → Prop} {px : String → mp_T → Prop} {ix : Nat} {rest st0 : List Value} {hh : List (Nat × Nat × Nat × Nat)} (nA : Nat) (hM : ct_H l G y code1 maxL ret hh rm1 av M po px) (w1 : Cond.methodLink own ix y ∈ tb_ws) (w2 : Cond.static y ∈ tb_ws) (w3 : Cond.initialized y.cls ∈ tb_ws) (w4 : Cond.codeWith y code1 maxL ret hh ∈ tb_ws) (hdn : y.cls ≠ "java/lang/invoke/MethodHandle" ∧ y.cls ≠ "java/lang/invoke/VarHandle" ∧ (parseMethodDescriptor y.desc).map (fun d => d.parameters.length) = some nA) (hR : rm1.frames + 1 ≤ R.frames ∧ 8 + (maxL + 11) + rm1.locals ≤ R.locals) (hna : av.length = nA) (hst : st0 = av.reverse ++ rest) (hW : (rest.map fun v => v.category).sum ≤ 8) (hk : k + rm1.cells ≤ R.cells) (hn : n + rm1.slots ≤ R.slots) (hd : decode cc pc = .ok (.invokestatic ix, 3)) (kx : ∀ (E : String) (M1 : mp_T), px E M1 → jx p l e R s m args below meth c G nL Q M1 (k + rm1.cells) (n + rm1.slots) lv pc rest E) (kk : ∀ (v : Option Value) (M1 : mp_T), po v M1 → jj p l e R s m args below meth c G nL Q M1 (k + rm1.cells) (n + rm1.slots) lv (pc + 3) (v.toList ++ rest)) : jj p l e R s m args below meth c G nL Q M k n lv (pc) (st0) :=
  j_run (a := av.toArray) (fun H L ls h1 h2 h3 => vx_runSX (Ts := tb_ws) (g := F0 m pc ls st0) ⟨jf_x F, jf_b F, jf_ml F, jf_own F, jf_ts F⟩ hM (vx_cwSW nA (jf_ts F) (tb_good (tb_s w1 w2 w3 w4)) rfl rfl rfl hdn hR) (j_pre F av h1 h2) rfl hna h3.1 hst (lv_room hW) hd ⟨hk, hn⟩) kx kk
/-- a method of an object -/
theorem j_callV (F : jf p l s m args meth c G own cc nL tab) {y : MethodName} {code1 : ByteArray} {maxL : Nat} {ret : Option FieldType} {rm1 : Room} {av : List Value} {po : Option Value → mp_T → Prop} {px : String → mp_T → Prop} {ix : Nat} {rest st0 : List Value} {b ci N : Nat} {T : u_T} {fs : List Value} (nA : Nat) (hM : ct_C l G y code1 maxL ret rm1 (.ref b :: av) M po px) (hb : M b = some (.inr (ci, fs))) (hc : cls_L[ci]? = some (y.cls, T, N)) (w1 : Cond.methodLink own ix y ∈ tb_ws) (w2 : Cond.instanceMethod y ∈ tb_ws) (w3 : Cond.selects y.cls y y ∈ tb_ws) (w0 : Cond.initialized y.cls ∈ tb_ws) (w4 : Cond.code y code1 maxL ret ∈ tb_ws) (hdn : y.cls ≠ "java/lang/invoke/MethodHandle" ∧ y.cls ≠ "java/lang/invoke/VarHandle" ∧ (parseMethodDescriptor y.desc).map (fun d => d.parameters.length) = some nA) (hR : rm1.frames + 1 ≤ R.frames ∧ 8 + (maxL + 11) + rm1.locals ≤ R.locals) (hna : av.length = nA) (hst : st0 = av.reverse ++ .ref b :: rest) (hW : (rest.map fun v => v.category).sum ≤ 8) (hk : k + rm1.cells ≤ R.cells) (hn : n + rm1.slots ≤ R.slots) (hd : decode cc pc = .ok (.invokevirtual ix, 3)) (kx : ∀ (E : String) (M1 : mp_T), px E M1 → jx p l e R s m args below meth c G nL Q M1 (k + rm1.cells) (n + rm1.slots) lv pc rest E) (kk : ∀ (v : Option Value) (M1 : mp_T), po v M1 → jj p l e R s m args below meth c G nL Q M1 (k + rm1.cells) (n + rm1.slots) lv (pc + 3) (v.toList ++ rest)) : jj p l e R s m args below meth c G nL Q M k n lv (pc) (st0) :=
  j_run (a := (Value.ref b :: av).toArray) (fun H L ls h1 h2 h3 => vx_runV (Ts := tb_ws) (g := F0 m pc ls st0) ⟨jf_x F, jf_b F, jf_ml F, jf_own F, jf_ts F⟩ hM (cwV nA (jf_ts F) (tb_good (tb_v w1 w2 w3 w0 w4)) rfl rfl rfl ⟨rfl, hdn⟩ hR) ⟨wd_blind G M _, va_recv (jf_k F) (mp_one h1 hb) hc (q0 := 0) rfl, (j_pre F _ h1 h2).2⟩ rfl hna h3.1 hst (lv_room hW) hd ⟨hk, hn⟩) kx kk
/-- a constructor -/
def cn_C (l : Launch) (G : gv_T) (y : MethodName) (cc : ByteArray) (maxL : Nat) (rm : Room) (av : List Value) (M : mp_T) (po : Option Value → mp_T → Prop) : Prop :=
  Met l y (Cond.code y cc maxL none :: tb_ws) rm (va_Pc av (wd_W G M)) (cq_Q G po) rm.cells rm.slots (ge_A G)
theorem j_callI (F : jf p l s m args meth c G own cc nL tab) {y : MethodName} {code1 : ByteArray} {maxL : Nat} {rm1 : Room} {av : List Value} {po : Option Value → mp_T → Prop} {ix b : Nat} {rest st0 : List Value} (nA : Nat) (hM : cn_C l G y code1 maxL rm1 (.ref b :: av) M po) (w1 : Cond.methodLink own ix y ∈ tb_ws) (w2 : Cond.instanceMethod y ∈ tb_ws) (w0 : Cond.initialized y.cls ∈ tb_ws) (w4 : Cond.code y code1 maxL none ∈ tb_ws) (hy1 : y.name = "<init>") (hpn : ∀ (v : Value) (M1 : mp_T), ¬ po (some v) M1) (hdn : y.cls ≠ "java/lang/invoke/MethodHandle" ∧ y.cls ≠ "java/lang/invoke/VarHandle" ∧ (parseMethodDescriptor y.desc).map (fun d => d.parameters.length) = some nA) (hR : rm1.frames + 1 ≤ R.frames ∧ 8 + (maxL + 11) + rm1.locals ≤ R.locals) (hna : av.length = nA) (hst : st0 = av.reverse ++ .ref b :: rest) (hW : (rest.map fun v => v.category).sum ≤ 8) (hk : k + rm1.cells ≤ R.cells) (hn : n + rm1.slots ≤ R.slots) (hd : decode cc pc = .ok (.invokespecial ix, 3)) (kk : ∀ M1 : mp_T, po none M1 → jj p l e R s m args below meth c G nL Q M1 (k + rm1.cells) (n + rm1.slots) lv (pc + 3) (rest)) : jj p l e R s m args below meth c G nL Q M k n lv (pc) (st0) := by
  intro H L ls h1 h2 h3 T hT X
  have hg : GoodIn tb_ws (Cond.code y code1 maxL none :: tb_ws) := tb_good (fun w hw => by
    rcases List.mem_cons.mp hw with h | h
    · rw [h]; exact w4
    · exact h)
  obtain ⟨v, st₀, t, T', L', h0, X', hL, e1, e2, ⟨⟨v', M', hv, hp, hw⟩, hF⟩, stp⟩ := va_runI (Ts := tb_ws) (g := F0 m pc ls st0) ⟨jf_x F, jf_b F, jf_ml F, jf_own F, jf_ts F⟩ hM (cwI nA (jf_ts F) hg rfl rfl rfl (jf_ts F _ w0) (jf_ts F _ w1) (jf_ts F _ w2) hy1 hdn hR) (j_pre F _ h1 h2) rfl hna h3.1 hst (lv_room hW) hd ⟨hk, hn⟩ T hT X
  cases hv
  obtain ⟨k1, k2, k3⟩ := vx_keep h0 e1 h2 (fun _ _ h => h) (fun _ h => h) hL hF
  cases v with
  | none =>
    obtain ⟨t2, a1, b1⟩ := kk M' hp T'.heap (L ++ L') ls (by rw [e1]; exact hw.2.1) k3 h3 T' rfl X'
    exact ⟨t2, stp t2 a1, b1⟩
  | some v => exact absurd hp (hpn v M')
/-- an exception is caught by the row x of the method's table -/
theorem j_catch (F : jf p l s m args meth c G own cc nL tab) {E name : String} (pre : List ExceptionTableEntry) (x : ExceptionTableEntry) (suf : List ExceptionTableEntry) (hsplit : tab = pre ++ x :: suf) (hpass : ∀ z ∈ pre, covers z pc = false ∨ (z.catchType ≠ 0 ∧ ∃ nm : String, Cond.classLink own z.catchType nm ∈ tb_ws ∧ va_Nc E nm s)) (hx : covers x pc = true) (h0 : x.catchType ≠ 0) (hw : Cond.classLink own x.catchType name ∈ tb_ws) (hca : va_Nw (.castable E name) s) (kk : ∀ q : Nat, jj p l e R s m args below meth c G nL Q M k n lv (x.handlerPc) ([.ref q])) : jx p l e R s m args below meth c G nL Q M k n lv pc st E := fun H L ls q ce h1 h2 h3 hce hcv hcl =>
  vx_catch (jf_own F) pre x suf ((jf_tab F).trans hsplit) (fun z hz => (hpass z hz).elim Or.inl (fun h => Or.inr ⟨h.1, h.2.choose, jf_ts F _ h.2.choose_spec.1, h.2.choose_spec.2⟩)) hx h0 (jf_ts F _ hw) (va_Nw.use rfl hca) hce hcv hcl (kk q H L ls h1 h2 h3)
end JJ
theorem ct_of {l : Launch} {G : gv_T} {y : MethodName} {cc : ByteArray} {maxL : Nat} {ret : Option FieldType} {rm : Room} {av : List Value} {M : mp_T} {po : Option Value → mp_T → Prop} {px : String → mp_T → Prop} (hl : l.stackTraces = false) (hy : plainName y.cls = true) (hal : (lg_sl av).length ≤ maxL)
    (body : ∀ (p : Program) (e : Env) (s : State) (m : MethodId) (args : Array Value) (below : List Frame) (meth : Method) (c : Code), jf p l s m args meth c G y.cls cc maxL [] → meth.sig.returnType = ret → meth.name = y.name → jj p l e rm s m args below meth c G maxL (jq_Q below G po px args s rm) M 0 0 (lv_args 0 av) 0 []) : ct_C l G y cc maxL ret rm av M po px := by
  refine vx_ofW (cc := cc) (maxL := maxL) (ret := ret) hy rfl ?_
  intro p e s m args below meth c s₁ B hml htab hv
  obtain ⟨rfl, hz, hP, hK, hsx⟩ := hv
  have hts := atoms_spec (ws := Cond.code y cc maxL ret :: tb_ws) B.pre
  have hown : s.vm.findClass y.cls = some m.cls := findClass_of_methodNamed B.named
  have htab' : c.exceptionTable.toList = [] := List.eq_nil_iff_forall_not_mem.mpr htab
  rw [lg_entry_eq]
  exact body p e s m _ below meth c ⟨B.exec, B.bytes, hml, hown, fun w hw => hts w (List.mem_cons_of_mem _ hw), hK, hz, hsx, B.notSynchronized, hl, htab'⟩ B.returns (name_of_methodNamed B.named B.method).1 s.heap [] _ hP va_S.rf (lv_entry av hal)
theorem cn_of {l : Launch} {G : gv_T} {y : MethodName} {cc : ByteArray} {maxL : Nat} {rm : Room} {av : List Value} {M : mp_T} {po : Option Value → mp_T → Prop} (hl : l.stackTraces = false) (hy : plainName y.cls = true) (hal : (lg_sl av).length ≤ maxL)
    (body : ∀ (p : Program) (e : Env) (s : State) (m : MethodId) (args : Array Value) (below : List Frame) (meth : Method) (c : Code), jf p l s m args meth c G y.cls cc maxL c.exceptionTable.toList → meth.sig.returnType = none → meth.name = y.name → jj p l e rm s m args below meth c G maxL (MQ below (cq_Q G po) args s rm.cells rm.slots (ge_A G)) M 0 0 (lv_args 0 av) 0 []) : cn_C l G y cc maxL rm av M po := by
  refine Met.ofW (cc := cc) (maxL := maxL) (ret := none) hy rfl ?_
  intro p e s m args below meth c s₁ B hml hv
  obtain ⟨rfl, hz, hP, hK, hsx⟩ := hv
  have hts := atoms_spec (ws := Cond.code y cc maxL none :: tb_ws) B.pre
  have hown : s.vm.findClass y.cls = some m.cls := findClass_of_methodNamed B.named
  rw [lg_entry_eq]
  exact body p e s m _ below meth c ⟨B.exec, B.bytes, hml, hown, fun w hw => hts w (List.mem_cons_of_mem _ hw), hK, hz, hsx, B.notSynchronized, hl, rfl⟩ B.returns (name_of_methodNamed B.named B.method).1 s.heap [] _ hP va_S.rf (lv_entry av hal)
theorem ctH_of {l : Launch} {G : gv_T} {y : MethodName} {cc : ByteArray} {maxL : Nat} {ret : Option FieldType} {hh : List (Nat × Nat × Nat × Nat)} {rm : Room} {av : List Value} {M : mp_T} {po : Option Value → mp_T → Prop} {px : String → mp_T → Prop} (hl : l.stackTraces = false) (hy : plainName y.cls = true) (hal : (lg_sl av).length ≤ maxL)
    (body : ∀ (p : Program) (e : Env) (s : State) (m : MethodId) (args : Array Value) (below : List Frame) (meth : Method) (c : Code), jf p l s m args meth c G y.cls cc maxL (tableOf hh) → meth.sig.returnType = ret → meth.name = y.name → jj p l e rm s m args below meth c G maxL (jq_Q below G po px args s rm) M 0 0 (lv_args 0 av) 0 []) : ct_H l G y cc maxL ret hh rm av M po px := by
  refine vx_ofWH (cc := cc) (maxL := maxL) (ret := ret) (hh := hh) hy rfl ?_
  intro p e s m args below meth c s₁ B hml hv
  obtain ⟨rfl, hz, hP, hK, hsx⟩ := hv
  have hts := atoms_spec (ws := Cond.codeWith y cc maxL ret hh :: tb_ws) B.pre
  have hown : s.vm.findClass y.cls = some m.cls := findClass_of_methodNamed B.named
  rw [lg_entry_eq]
  exact body p e s m _ below meth c ⟨B.exec, B.bytes, hml, hown, fun w hw => hts w (List.mem_cons_of_mem _ hw), hK, hz, hsx, B.notSynchronized, hl, vx_table (x := y) B (hts _ List.mem_cons_self)⟩ B.returns (name_of_methodNamed B.named B.method).1 s.heap [] _ hP va_S.rf (lv_entry av hal)
end
section
/-! ===== what the calls mean: tapes, keys, versions in their order ===== -/
abbrev ke_T : Type := List Int32
abbrev en_T : Type := ke_T × Int32 × Int32 × Int32
abbrev sg_T : Type := ke_T × List en_T × Option Nat
/-- a byte as 0 .. 255 -/
def un (b : Int32) : Nat := b.toBitVec.toNat % 256
theorem un_lt (b : Int32) : un b < 256 := Nat.mod_lt _ (by decide)
theorem un_and (b : Int32) : b &&& 255 = nI (un b) := pk_and b 8 (by decide)
/-- keys compared: by their first different bytes; a beginning before what goes on -/
def kc : ke_T → ke_T → Int
  | [], [] => 0
  | [], _ :: _ => -1
  | _ :: _, [] => 1
  | a :: s, b :: t => if un a = un b then kc s t else (un a : Int) - un b
/-- a version beside a key and a moment -/
def oc (e : en_T) (k : ke_T) (m : Int32) : Int := if kc e.1 k = 0 then (if m < e.2.1 then -1 else if e.2.1 < m then 1 else 0) else kc e.1 k
/-- how many versions come before a key and moment -/
def fi : List en_T → ke_T → Int32 → Nat
  | [], _, _ => 0
  | e :: t, k, m => if oc e k m < 0 then fi t k m + 1 else 0
theorem fi_le (es : List en_T) (k : ke_T) (m : Int32) : fi es k m ≤ es.length := by
  induction es with
  | nil => exact Nat.le_refl _
  | cons e t ih =>
    simp only [fi]
    split
    · exact Nat.succ_le_succ ih
    · exact Nat.zero_le _
theorem fi_lt {es : List en_T} {k : ke_T} {m : Int32} {i : Nat} {e : en_T} (hi : i < fi es k m) (he : es[i]? = some e) : oc e k m < 0 := by
  induction es generalizing i with
  | nil => cases he
  | cons e0 t ih =>
    simp only [fi] at hi
    split at hi
    · rename_i h0
      cases i with
      | zero => cases he; exact h0
      | succ i => exact ih (Nat.lt_of_succ_lt_succ hi) he
    · cases hi
theorem fi_at {es : List en_T} {k : ke_T} {m : Int32} {e : en_T} (he : es[fi es k m]? = some e) : ¬ oc e k m < 0 := by
  induction es with
  | nil => cases he
  | cons e0 t ih =>
    simp only [fi] at he
    split at he
    · exact ih he
    · rename_i h0
      cases he
      exact h0
/-- a number that is the least one is fi -/
theorem fi_of {es : List en_T} {k : ke_T} {m : Int32} {v : Nat} (h1 : ∀ i e, i < v → es[i]? = some e → oc e k m < 0) (hv : v ≤ es.length) (h2 : ∀ e, es[v]? = some e → ¬ oc e k m < 0) : v = fi es k m := by
  induction es generalizing v with
  | nil => simp at hv; simp [fi, hv]
  | cons e0 t ih =>
    simp only [fi]
    cases v with
    | zero =>
      rw [if_neg (h2 e0 rfl)]
    | succ v =>
      rw [if_pos (h1 0 e0 (Nat.succ_pos _) rfl)]
      congr 1
      exact ih (fun i e hi he => h1 (i + 1) e (Nat.succ_lt_succ hi) he) (Nat.le_of_succ_le_succ hv) (fun e he => h2 e he)
theorem sg_lt {a b : Nat} (ha : a < 2 ^ 30) (hb : b < 2 ^ 30) : nI a - nI b < 0 ↔ a < b := by
  rw [Int32.lt_iff_toInt_lt, pk_sub_toInt ha hb, Int32.toInt_zero]
  omega
theorem sg_eq {a b : Nat} (ha : a < 2 ^ 30) (hb : b < 2 ^ 30) : nI a - nI b = 0 ↔ a = b := by
  constructor
  · intro h
    have h1 := pk_sub_toInt ha hb
    rw [h, Int32.toInt_zero] at h1
    omega
  · intro h
    subst h
    simp
theorem kc_drop {a b : ke_T} (j : Nat) (ha : j ≤ a.length) (hb : j ≤ b.length) (h : ∀ i, i < j → un (a.getD i 0) = un (b.getD i 0)) : kc a b = kc (a.drop j) (b.drop j) := by
  induction j generalizing a b with
  | zero => rfl
  | succ j ih =>
    cases a with
    | nil => simp at ha
    | cons x s =>
      cases b with
      | nil => simp at hb
      | cons y t =>
        have h0 : un x = un y := h 0 (Nat.succ_pos _)
        simp only [kc, if_pos h0, List.drop_succ_cons]
        exact ih (by simpa using ha) (by simpa using hb) (fun i hi => by simpa using h (i + 1) (Nat.succ_lt_succ hi))
theorem kc_diff {a b : ke_T} (j : Nat) (ha : j < a.length) (hb : j < b.length) (h : ∀ i, i < j → un (a.getD i 0) = un (b.getD i 0)) (hn : un (a.getD j 0) ≠ un (b.getD j 0)) : kc a b = (un (a.getD j 0) : Int) - un (b.getD j 0) := by
  rw [kc_drop j (Nat.le_of_lt ha) (Nat.le_of_lt hb) h]
  rw [List.drop_eq_getElem_cons ha, List.drop_eq_getElem_cons hb]
  simp only [List.getD_eq_getElem?_getD, List.getElem?_eq_getElem ha, List.getElem?_eq_getElem hb, Option.getD_some] at hn ⊢
  simp [kc, hn]
theorem kc_end {a b : ke_T} (j : Nat) (ha : j ≤ a.length) (hb : j ≤ b.length) (h : ∀ i, i < j → un (a.getD i 0) = un (b.getD i 0)) (he : j = a.length ∨ j = b.length) : (kc a b < 0 ↔ a.length < b.length) ∧ (kc a b = 0 ↔ a.length = b.length) := by
  rw [kc_drop j ha hb h]
  rcases he with he | he
  · have e1 : a.drop j = [] := List.drop_eq_nil_of_le (by omega)
    rw [e1]
    cases hd : b.drop j with
    | nil =>
      have : b.length ≤ j := by simpa using hd
      constructor <;> constructor <;> intro h9 <;> first | (simp [kc] at h9; done) | (simp [kc]; done) | omega
    | cons y t =>
      have : j < b.length := by
        have h1 : (b.drop j).length = b.length - j := List.length_drop
        rw [hd] at h1
        simp at h1
        omega
      constructor <;> constructor <;> intro h9 <;> first | (simp [kc] at h9; done) | (simp [kc]; done) | omega
  · have e1 : b.drop j = [] := List.drop_eq_nil_of_le (by omega)
    rw [e1]
    cases hd : a.drop j with
    | nil =>
      have : a.length ≤ j := by simpa using hd
      constructor <;> constructor <;> intro h9 <;> first | (simp [kc] at h9; done) | (simp [kc]; done) | omega
    | cons y t =>
      have : j < a.length := by
        have h1 : (a.drop j).length = a.length - j := List.length_drop
        rw [hd] at h1
        simp at h1
        omega
      constructor <;> constructor <;> intro h9 <;> first | (simp [kc] at h9; done) | (simp [kc]; done) | omega
end
section
/-! ===== what each call does to a state: (its code, its answer, the state behind it) ===== -/
def b1 (w : Int32) (i : Nat) : Int32 := (w >>> (nI (24 - 8 * i) &&& 31)).toInt8.toInt32
def se_5 (a b c d e : Int32) (q : Nat) : Int32 := if q < 1 then a else if q < 2 then b else if q < 3 then c else if q < 4 then d else e
def by20 (a b c d e : Int32) : ke_T := (List.range 20).map (fun j => b1 (se_5 a b c d e (j / 4)) (j % 4))
def sp_feed (a b c d e : Int32) (σ : sg_T) : Nat × Int32 × sg_T := if 40 < σ.1.length then (1, 0, σ) else (0, nI (σ.1.length + 20), (σ.1 ++ by20 a b c d e, σ.2))
def sp_end (n : Int32) (σ : sg_T) : Nat × Int32 × sg_T := if n < 0 ∨ nI σ.1.length < n then (1, 0, σ) else (0, n, (σ.1.take n.toNatClampNeg, σ.2))
/-- the version of that key and moment is there -/
def hit (es : List en_T) (k : ke_T) (m : Int32) : Bool := match es[fi es k m]? with
  | some e => decide (oc e k m = 0)
  | none => false
def pu_bad (m p z : Int32) (σ : sg_T) : Bool := decide (m < 0) || decide (p < -1) || decide (z < 0) || decide (1000 < z) || decide (σ.1.length < 1) || decide (40 < σ.1.length)
def pu_set (es : List en_T) (v : Nat) (p z : Int32) : List en_T := es.modify v (fun e => (e.1, e.2.1, p, z))
def pu_ins (es : List en_T) (v : Nat) (x : en_T) : List en_T := es.take v ++ x :: es.drop v
def pu_cur (v : Nat) (c : Option Nat) : Option Nat := c.map (fun i => if v ≤ i then i + 1 else i)
def sp_put (m p z : Int32) (σ : sg_T) : Nat × Int32 × sg_T :=
  if pu_bad m p z σ = true then (1, 0, σ)
  else if hit σ.2.1 σ.1 m = true then (0, nI σ.2.1.length, ([], pu_set σ.2.1 (fi σ.2.1 σ.1 m) p z, σ.2.2))
  else if σ.2.1.length = 160 then (2, 0, ([], σ.2))
  else (0, nI (σ.2.1.length + 1), ([], pu_ins σ.2.1 (fi σ.2.1 σ.1 m) (σ.1, m, p, z), pu_cur (fi σ.2.1 σ.1 m) σ.2.2))
def go_to (es : List en_T) (t : ke_T) (c : Nat) (v : Nat) (ok : Bool) : Nat × Int32 × sg_T := match es[v]? with
  | some e => if ok = true then (0, e.2.2.1, (t, es, some v)) else (c, 0, (t, es, none))
  | none => (c, 0, (t, es, none))
def of_key (es : List en_T) (k : ke_T) (v : Nat) : Bool := match es[v]? with
  | some e => decide (kc e.1 k = 0)
  | none => false
def sp_find (m : Int32) (σ : sg_T) : Nat × Int32 × sg_T := if σ.1.length < 1 ∨ 40 < σ.1.length then (1, 0, σ) else go_to σ.2.1 [] 2 (fi σ.2.1 σ.1 m) (of_key σ.2.1 σ.1 (fi σ.2.1 σ.1 m))
def sk_v (es : List en_T) (k : ke_T) (m : Int32) (b : Bool) : Nat := if (b && hit es k m) = true then fi es k m + 1 else fi es k m
def sp_seek (m : Int32) (b : Bool) (σ : sg_T) : Nat × Int32 × sg_T := if 40 < σ.1.length then (1, 0, σ) else go_to σ.2.1 [] 2 (sk_v σ.2.1 σ.1 m b) true
def sp_next (σ : sg_T) : Nat × Int32 × sg_T := match σ.2.2 with
  | some c => go_to σ.2.1 σ.1 1 (c + 1) true
  | none => (1, 0, (σ.1, σ.2.1, none))
def sp_first (σ : sg_T) : Nat × Int32 × sg_T := go_to σ.2.1 σ.1 1 0 true
def cu_E (σ : sg_T) : Option en_T := match σ.2.2 with
  | some c => σ.2.1[c]?
  | none => none
def sp_current (w : Int32) (σ : sg_T) : Nat × Int32 × sg_T := if w < 0 ∨ 3 < w then (1, 0, σ) else match cu_E σ with
  | none => (2, 0, σ)
  | some e => (0, if w = 0 then e.2.1 else if w = 1 then e.2.2.1 else if w = 2 then e.2.2.2 else nI e.1.length, σ)
def wo_b (k : ke_T) (j : Nat) : Int32 := if j < k.length then nI (un (k.getD j 0)) else 0
def wo_8 (k : ke_T) (i : Nat) : Nat → Int64
  | 0 => 0
  | n + 1 => wo_8 k i n * 256 + (wo_b k (i + n)).toInt64
def sp_word (i : Int32) (σ : sg_T) : Nat × Int64 × sg_T := match cu_E σ with
  | none => (1, 0, σ)
  | some e => if i < 0 ∨ nI e.1.length ≤ i then (2, 0, σ) else (0, wo_8 e.1 i.toNatClampNeg 8, σ)
def sp_clear (σ : sg_T) : Nat × Int32 × sg_T := (0, nI σ.2.1.length, (σ.1, [], none))
def cu_I (c : Option Nat) : Int32 := match c with
  | none => -1
  | some i => nI i
/-- what holds of every state -/
def sg_ok (σ : sg_T) : Prop := σ.1.length ≤ 60 ∧ (∀ b ∈ σ.1, vp_nar .byte b = b) ∧ σ.2.1.length ≤ 160 ∧ (∀ e ∈ σ.2.1, 1 ≤ e.1.length ∧ e.1.length ≤ 40) ∧ ∀ c, σ.2.2 = some c → c < σ.2.1.length
theorem hit_le {es : List en_T} {k : ke_T} {m : Int32} (h : hit es k m = true) : fi es k m < es.length := by
  unfold hit at h
  split at h
  · rename_i e he
    exact (List.getElem?_eq_some_iff.mp he).1
  · cases h
theorem hit_of {es : List en_T} {k : ke_T} {m : Int32} {e : en_T} (he : es[fi es k m]? = some e) : hit es k m = true ↔ oc e k m = 0 := by
  unfold hit
  rw [he]
  simp
theorem hit_no {es : List en_T} {k : ke_T} {m : Int32} (h : es.length ≤ fi es k m) : hit es k m = false := by
  unfold hit
  rw [List.getElem?_eq_none h]
theorem go_ok {es : List en_T} {t : ke_T} {c v : Nat} {e : en_T} (he : es[v]? = some e) : go_to es t c v true = (0, e.2.2.1, (t, es, some v)) := by
  unfold go_to
  rw [he]
  simp
theorem go_no {es : List en_T} {t : ke_T} {c v : Nat} {ok : Bool} (h : es.length ≤ v ∨ ok = false) : go_to es t c v ok = (c, 0, (t, es, none)) := by
  unfold go_to
  rcases h with h | h
  · rw [List.getElem?_eq_none h]
  · cases he : es[v]? with
    | none => rfl
    | some e => simp [h]
theorem by20_len (a b c d e : Int32) : (by20 a b c d e).length = 20 := by simp [by20]
theorem by20_at (a b c d e : Int32) {j : Nat} (hj : j < 20) : (by20 a b c d e).getD j 0 = b1 (se_5 a b c d e (j / 4)) (j % 4) := by
  simp [by20, List.getD_eq_getElem?_getD, hj]
theorem b1_byte (w : Int32) (i : Nat) : vp_nar .byte (b1 w i) = b1 w i := pk_vb _
end
section
/-! ===== the reference: its cells ===== -/
def mo_S (G : gv_T) (M : mp_T) (h ta ke le mo pl si : Nat) (fa tl sz ap : Int32) (tf kf lf mf pf sf : Nat → Int32) : Prop :=
  M h = some (.inr (3, [.int fa, .ref ta, .int tl, .ref ke, .ref le, .ref mo, .ref pl, .ref si, .int sz, .int ap])) ∧ M ta = some (.inl (G.2.1.1, 60, .inl tf)) ∧ M ke = some (.inl (G.2.1.1, 6440, .inl kf)) ∧ M le = some (.inl (G.2.1.2.1, 161, .inl lf)) ∧ M mo = some (.inl (G.2.1.2.1, 161, .inl mf)) ∧ M pl = some (.inl (G.2.1.2.1, 161, .inl pf)) ∧ M si = some (.inl (G.2.1.2.1, 161, .inl sf)) ∧ (∀ q ∈ [h, ta, ke, le, mo, pl, si], G.2.2.1 ≤ q) ∧ [h, ta, ke, le, mo, pl, si].Nodup
/-- .. and nothing else differs from M0 -/
def mo_W (G : gv_T) (M0 M : mp_T) (h ta ke le mo pl si : Nat) (fa tl sz ap : Int32) (tf kf lf mf pf sf : Nat → Int32) : Prop := mo_S G M h ta ke le mo pl si fa tl sz ap tf kf lf mf pf sf ∧ ∀ q, q ∉ [h, ta, ke, le, mo, pl, si] → M q = M0 q
section MO1
variable {l : Launch} {G : gv_T} {M M0 : mp_T} {h ta ke le mo pl si : Nat} {fa tl sz ap : Int32} {tf kf lf mf pf sf : Nat → Int32}
theorem so_h (S : mo_S G M h ta ke le mo pl si fa tl sz ap tf kf lf mf pf sf) : M h = some (.inr (3, [.int fa, .ref ta, .int tl, .ref ke, .ref le, .ref mo, .ref pl, .ref si, .int sz, .int ap])) := S.1
theorem so_ta (S : mo_S G M h ta ke le mo pl si fa tl sz ap tf kf lf mf pf sf) : M ta = some (.inl (G.2.1.1, 60, .inl tf)) := S.2.1
theorem so_ke (S : mo_S G M h ta ke le mo pl si fa tl sz ap tf kf lf mf pf sf) : M ke = some (.inl (G.2.1.1, 6440, .inl kf)) := S.2.2.1
theorem so_le (S : mo_S G M h ta ke le mo pl si fa tl sz ap tf kf lf mf pf sf) : M le = some (.inl (G.2.1.2.1, 161, .inl lf)) := S.2.2.2.1
theorem so_mo (S : mo_S G M h ta ke le mo pl si fa tl sz ap tf kf lf mf pf sf) : M mo = some (.inl (G.2.1.2.1, 161, .inl mf)) := S.2.2.2.2.1
theorem so_pl (S : mo_S G M h ta ke le mo pl si fa tl sz ap tf kf lf mf pf sf) : M pl = some (.inl (G.2.1.2.1, 161, .inl pf)) := S.2.2.2.2.2.1
theorem so_si (S : mo_S G M h ta ke le mo pl si fa tl sz ap tf kf lf mf pf sf) : M si = some (.inl (G.2.1.2.1, 161, .inl sf)) := S.2.2.2.2.2.2.1
theorem so_z (S : mo_S G M h ta ke le mo pl si fa tl sz ap tf kf lf mf pf sf) : ∀ q ∈ [h, ta, ke, le, mo, pl, si], G.2.2.1 ≤ q := S.2.2.2.2.2.2.2.1
theorem sz_h (S : mo_S G M h ta ke le mo pl si fa tl sz ap tf kf lf mf pf sf) : G.2.2.1 ≤ h := so_z S h (by simp)
theorem sz_ta (S : mo_S G M h ta ke le mo pl si fa tl sz ap tf kf lf mf pf sf) : G.2.2.1 ≤ ta := so_z S ta (by simp)
theorem sz_ke (S : mo_S G M h ta ke le mo pl si fa tl sz ap tf kf lf mf pf sf) : G.2.2.1 ≤ ke := so_z S ke (by simp)
theorem sz_le (S : mo_S G M h ta ke le mo pl si fa tl sz ap tf kf lf mf pf sf) : G.2.2.1 ≤ le := so_z S le (by simp)
theorem sz_mo (S : mo_S G M h ta ke le mo pl si fa tl sz ap tf kf lf mf pf sf) : G.2.2.1 ≤ mo := so_z S mo (by simp)
theorem sz_pl (S : mo_S G M h ta ke le mo pl si fa tl sz ap tf kf lf mf pf sf) : G.2.2.1 ≤ pl := so_z S pl (by simp)
theorem sz_si (S : mo_S G M h ta ke le mo pl si fa tl sz ap tf kf lf mf pf sf) : G.2.2.1 ≤ si := so_z S si (by simp)
theorem mo_rf (S : mo_S G M h ta ke le mo pl si fa tl sz ap tf kf lf mf pf sf) : mo_W G M M h ta ke le mo pl si fa tl sz ap tf kf lf mf pf sf := ⟨S, fun _ _ => rfl⟩
theorem mw_fa (S : mo_W G M0 M h ta ke le mo pl si fa tl sz ap tf kf lf mf pf sf) (x : Int32) : mo_W G M0 (mp_U M h (.inr (3, [.int x, .ref ta, .int tl, .ref ke, .ref le, .ref mo, .ref pl, .ref si, .int sz, .int ap]))) h ta ke le mo pl si x tl sz ap tf kf lf mf pf sf := by
  obtain ⟨⟨s0, s1, s2, s3, s4, s5, s6, hz, nd⟩, fr⟩ := S
  have nd1 := nd
  simp only [List.nodup_cons, List.mem_cons, not_or, List.not_mem_nil, or_false, not_false_eq_true, and_true, List.nodup_nil] at nd1
  obtain ⟨⟨n01, n02, n03, n04, n05, n06⟩, ⟨n12, n13, n14, n15, n16⟩, ⟨n23, n24, n25, n26⟩, ⟨n34, n35, n36⟩, ⟨n45, n46⟩, n56⟩ := nd1
  exact ⟨⟨mp_Us _ _ _, (mp_Un (Ne.symm n01)).trans s1, (mp_Un (Ne.symm n02)).trans s2, (mp_Un (Ne.symm n03)).trans s3, (mp_Un (Ne.symm n04)).trans s4, (mp_Un (Ne.symm n05)).trans s5, (mp_Un (Ne.symm n06)).trans s6, hz, nd⟩, fun q hq => (mp_Un (fun e => hq (by rw [e]; simp))).trans (fr q hq)⟩
theorem mw_tl (S : mo_W G M0 M h ta ke le mo pl si fa tl sz ap tf kf lf mf pf sf) (x : Int32) : mo_W G M0 (mp_U M h (.inr (3, [.int fa, .ref ta, .int x, .ref ke, .ref le, .ref mo, .ref pl, .ref si, .int sz, .int ap]))) h ta ke le mo pl si fa x sz ap tf kf lf mf pf sf := by
  obtain ⟨⟨s0, s1, s2, s3, s4, s5, s6, hz, nd⟩, fr⟩ := S
  have nd1 := nd
  simp only [List.nodup_cons, List.mem_cons, not_or, List.not_mem_nil, or_false, not_false_eq_true, and_true, List.nodup_nil] at nd1
  obtain ⟨⟨n01, n02, n03, n04, n05, n06⟩, ⟨n12, n13, n14, n15, n16⟩, ⟨n23, n24, n25, n26⟩, ⟨n34, n35, n36⟩, ⟨n45, n46⟩, n56⟩ := nd1
  exact ⟨⟨mp_Us _ _ _, (mp_Un (Ne.symm n01)).trans s1, (mp_Un (Ne.symm n02)).trans s2, (mp_Un (Ne.symm n03)).trans s3, (mp_Un (Ne.symm n04)).trans s4, (mp_Un (Ne.symm n05)).trans s5, (mp_Un (Ne.symm n06)).trans s6, hz, nd⟩, fun q hq => (mp_Un (fun e => hq (by rw [e]; simp))).trans (fr q hq)⟩
theorem mw_sz (S : mo_W G M0 M h ta ke le mo pl si fa tl sz ap tf kf lf mf pf sf) (x : Int32) : mo_W G M0 (mp_U M h (.inr (3, [.int fa, .ref ta, .int tl, .ref ke, .ref le, .ref mo, .ref pl, .ref si, .int x, .int ap]))) h ta ke le mo pl si fa tl x ap tf kf lf mf pf sf := by
  obtain ⟨⟨s0, s1, s2, s3, s4, s5, s6, hz, nd⟩, fr⟩ := S
  have nd1 := nd
  simp only [List.nodup_cons, List.mem_cons, not_or, List.not_mem_nil, or_false, not_false_eq_true, and_true, List.nodup_nil] at nd1
  obtain ⟨⟨n01, n02, n03, n04, n05, n06⟩, ⟨n12, n13, n14, n15, n16⟩, ⟨n23, n24, n25, n26⟩, ⟨n34, n35, n36⟩, ⟨n45, n46⟩, n56⟩ := nd1
  exact ⟨⟨mp_Us _ _ _, (mp_Un (Ne.symm n01)).trans s1, (mp_Un (Ne.symm n02)).trans s2, (mp_Un (Ne.symm n03)).trans s3, (mp_Un (Ne.symm n04)).trans s4, (mp_Un (Ne.symm n05)).trans s5, (mp_Un (Ne.symm n06)).trans s6, hz, nd⟩, fun q hq => (mp_Un (fun e => hq (by rw [e]; simp))).trans (fr q hq)⟩
theorem mw_ap (S : mo_W G M0 M h ta ke le mo pl si fa tl sz ap tf kf lf mf pf sf) (x : Int32) : mo_W G M0 (mp_U M h (.inr (3, [.int fa, .ref ta, .int tl, .ref ke, .ref le, .ref mo, .ref pl, .ref si, .int sz, .int x]))) h ta ke le mo pl si fa tl sz x tf kf lf mf pf sf := by
  obtain ⟨⟨s0, s1, s2, s3, s4, s5, s6, hz, nd⟩, fr⟩ := S
  have nd1 := nd
  simp only [List.nodup_cons, List.mem_cons, not_or, List.not_mem_nil, or_false, not_false_eq_true, and_true, List.nodup_nil] at nd1
  obtain ⟨⟨n01, n02, n03, n04, n05, n06⟩, ⟨n12, n13, n14, n15, n16⟩, ⟨n23, n24, n25, n26⟩, ⟨n34, n35, n36⟩, ⟨n45, n46⟩, n56⟩ := nd1
  exact ⟨⟨mp_Us _ _ _, (mp_Un (Ne.symm n01)).trans s1, (mp_Un (Ne.symm n02)).trans s2, (mp_Un (Ne.symm n03)).trans s3, (mp_Un (Ne.symm n04)).trans s4, (mp_Un (Ne.symm n05)).trans s5, (mp_Un (Ne.symm n06)).trans s6, hz, nd⟩, fun q hq => (mp_Un (fun e => hq (by rw [e]; simp))).trans (fr q hq)⟩
theorem mw_tf (S : mo_W G M0 M h ta ke le mo pl si fa tl sz ap tf kf lf mf pf sf) (x : Nat → Int32) : mo_W G M0 (mp_U M ta (.inl (G.2.1.1, 60, .inl x))) h ta ke le mo pl si fa tl sz ap x kf lf mf pf sf := by
  obtain ⟨⟨s0, s1, s2, s3, s4, s5, s6, hz, nd⟩, fr⟩ := S
  have nd1 := nd
  simp only [List.nodup_cons, List.mem_cons, not_or, List.not_mem_nil, or_false, not_false_eq_true, and_true, List.nodup_nil] at nd1
  obtain ⟨⟨n01, n02, n03, n04, n05, n06⟩, ⟨n12, n13, n14, n15, n16⟩, ⟨n23, n24, n25, n26⟩, ⟨n34, n35, n36⟩, ⟨n45, n46⟩, n56⟩ := nd1
  exact ⟨⟨(mp_Un n01).trans s0, mp_Us _ _ _, (mp_Un (Ne.symm n12)).trans s2, (mp_Un (Ne.symm n13)).trans s3, (mp_Un (Ne.symm n14)).trans s4, (mp_Un (Ne.symm n15)).trans s5, (mp_Un (Ne.symm n16)).trans s6, hz, nd⟩, fun q hq => (mp_Un (fun e => hq (by rw [e]; simp))).trans (fr q hq)⟩
theorem mw_kf (S : mo_W G M0 M h ta ke le mo pl si fa tl sz ap tf kf lf mf pf sf) (x : Nat → Int32) : mo_W G M0 (mp_U M ke (.inl (G.2.1.1, 6440, .inl x))) h ta ke le mo pl si fa tl sz ap tf x lf mf pf sf := by
  obtain ⟨⟨s0, s1, s2, s3, s4, s5, s6, hz, nd⟩, fr⟩ := S
  have nd1 := nd
  simp only [List.nodup_cons, List.mem_cons, not_or, List.not_mem_nil, or_false, not_false_eq_true, and_true, List.nodup_nil] at nd1
  obtain ⟨⟨n01, n02, n03, n04, n05, n06⟩, ⟨n12, n13, n14, n15, n16⟩, ⟨n23, n24, n25, n26⟩, ⟨n34, n35, n36⟩, ⟨n45, n46⟩, n56⟩ := nd1
  exact ⟨⟨(mp_Un n02).trans s0, (mp_Un n12).trans s1, mp_Us _ _ _, (mp_Un (Ne.symm n23)).trans s3, (mp_Un (Ne.symm n24)).trans s4, (mp_Un (Ne.symm n25)).trans s5, (mp_Un (Ne.symm n26)).trans s6, hz, nd⟩, fun q hq => (mp_Un (fun e => hq (by rw [e]; simp))).trans (fr q hq)⟩
theorem mw_lf (S : mo_W G M0 M h ta ke le mo pl si fa tl sz ap tf kf lf mf pf sf) (x : Nat → Int32) : mo_W G M0 (mp_U M le (.inl (G.2.1.2.1, 161, .inl x))) h ta ke le mo pl si fa tl sz ap tf kf x mf pf sf := by
  obtain ⟨⟨s0, s1, s2, s3, s4, s5, s6, hz, nd⟩, fr⟩ := S
  have nd1 := nd
  simp only [List.nodup_cons, List.mem_cons, not_or, List.not_mem_nil, or_false, not_false_eq_true, and_true, List.nodup_nil] at nd1
  obtain ⟨⟨n01, n02, n03, n04, n05, n06⟩, ⟨n12, n13, n14, n15, n16⟩, ⟨n23, n24, n25, n26⟩, ⟨n34, n35, n36⟩, ⟨n45, n46⟩, n56⟩ := nd1
  exact ⟨⟨(mp_Un n03).trans s0, (mp_Un n13).trans s1, (mp_Un n23).trans s2, mp_Us _ _ _, (mp_Un (Ne.symm n34)).trans s4, (mp_Un (Ne.symm n35)).trans s5, (mp_Un (Ne.symm n36)).trans s6, hz, nd⟩, fun q hq => (mp_Un (fun e => hq (by rw [e]; simp))).trans (fr q hq)⟩
theorem mw_mf (S : mo_W G M0 M h ta ke le mo pl si fa tl sz ap tf kf lf mf pf sf) (x : Nat → Int32) : mo_W G M0 (mp_U M mo (.inl (G.2.1.2.1, 161, .inl x))) h ta ke le mo pl si fa tl sz ap tf kf lf x pf sf := by
  obtain ⟨⟨s0, s1, s2, s3, s4, s5, s6, hz, nd⟩, fr⟩ := S
  have nd1 := nd
  simp only [List.nodup_cons, List.mem_cons, not_or, List.not_mem_nil, or_false, not_false_eq_true, and_true, List.nodup_nil] at nd1
  obtain ⟨⟨n01, n02, n03, n04, n05, n06⟩, ⟨n12, n13, n14, n15, n16⟩, ⟨n23, n24, n25, n26⟩, ⟨n34, n35, n36⟩, ⟨n45, n46⟩, n56⟩ := nd1
  exact ⟨⟨(mp_Un n04).trans s0, (mp_Un n14).trans s1, (mp_Un n24).trans s2, (mp_Un n34).trans s3, mp_Us _ _ _, (mp_Un (Ne.symm n45)).trans s5, (mp_Un (Ne.symm n46)).trans s6, hz, nd⟩, fun q hq => (mp_Un (fun e => hq (by rw [e]; simp))).trans (fr q hq)⟩
theorem mw_pf (S : mo_W G M0 M h ta ke le mo pl si fa tl sz ap tf kf lf mf pf sf) (x : Nat → Int32) : mo_W G M0 (mp_U M pl (.inl (G.2.1.2.1, 161, .inl x))) h ta ke le mo pl si fa tl sz ap tf kf lf mf x sf := by
  obtain ⟨⟨s0, s1, s2, s3, s4, s5, s6, hz, nd⟩, fr⟩ := S
  have nd1 := nd
  simp only [List.nodup_cons, List.mem_cons, not_or, List.not_mem_nil, or_false, not_false_eq_true, and_true, List.nodup_nil] at nd1
  obtain ⟨⟨n01, n02, n03, n04, n05, n06⟩, ⟨n12, n13, n14, n15, n16⟩, ⟨n23, n24, n25, n26⟩, ⟨n34, n35, n36⟩, ⟨n45, n46⟩, n56⟩ := nd1
  exact ⟨⟨(mp_Un n05).trans s0, (mp_Un n15).trans s1, (mp_Un n25).trans s2, (mp_Un n35).trans s3, (mp_Un n45).trans s4, mp_Us _ _ _, (mp_Un (Ne.symm n56)).trans s6, hz, nd⟩, fun q hq => (mp_Un (fun e => hq (by rw [e]; simp))).trans (fr q hq)⟩
theorem mw_sf (S : mo_W G M0 M h ta ke le mo pl si fa tl sz ap tf kf lf mf pf sf) (x : Nat → Int32) : mo_W G M0 (mp_U M si (.inl (G.2.1.2.1, 161, .inl x))) h ta ke le mo pl si fa tl sz ap tf kf lf mf pf x := by
  obtain ⟨⟨s0, s1, s2, s3, s4, s5, s6, hz, nd⟩, fr⟩ := S
  have nd1 := nd
  simp only [List.nodup_cons, List.mem_cons, not_or, List.not_mem_nil, or_false, not_false_eq_true, and_true, List.nodup_nil] at nd1
  obtain ⟨⟨n01, n02, n03, n04, n05, n06⟩, ⟨n12, n13, n14, n15, n16⟩, ⟨n23, n24, n25, n26⟩, ⟨n34, n35, n36⟩, ⟨n45, n46⟩, n56⟩ := nd1
  exact ⟨⟨(mp_Un n06).trans s0, (mp_Un n16).trans s1, (mp_Un n26).trans s2, (mp_Un n36).trans s3, (mp_Un n46).trans s4, (mp_Un n56).trans s5, mp_Us _ _ _, hz, nd⟩, fun q hq => (mp_Un (fun e => hq (by rw [e]; simp))).trans (fr q hq)⟩
set_option maxHeartbeats 4000000 in
set_option maxRecDepth 100000 in
theorem c_MO_thrown (hl : l.stackTraces = false) (S : mo_S G M h ta ke le mo pl si fa tl sz ap tf kf lf mf pf sf) : ct_C l G y_MO_thrown b_MO_thrown 1 (some .int) { frames := 0, cells := 0, slots := 0, locals := 0 } [.ref h] M (fun v M1 => v = some (.int fa) ∧ M = M1) (fun _ _ => False) := by
  refine ct_of hl (by decide +kernel) (Nat.le_of_ble_eq_true rfl) ?_
  intro p e s m args below meth c F hr hnm
  refine j_aload_n F d_MO_thrown_0 rfl rfl ?_
  refine j_get F (so_h S) rfl in_MO 0 (by decide) wf_MO_33 rfl d_MO_thrown_1 ?_
  exact j_iret F hr (Nat.le_refl _) (Nat.le_refl _) ⟨rfl, rfl⟩ d_MO_thrown_4
set_option maxHeartbeats 4000000 in
set_option maxRecDepth 100000 in
theorem c_MO_fail (hl : l.stackTraces = false) (S : mo_S G M h ta ke le mo pl si fa tl sz ap tf kf lf mf pf sf) (cd : Int32) : ct_C l G y_MO_fail b_MO_fail 2 (some .int) { frames := 0, cells := 0, slots := 0, locals := 0 } [.ref h, .int cd] M (fun v M1 => v = some (.int 0) ∧ mo_W G M M1 h ta ke le mo pl si cd tl sz ap tf kf lf mf pf sf) (fun _ _ => False) := by
  refine ct_of hl (by decide +kernel) (Nat.le_of_ble_eq_true rfl) ?_
  intro p e s m args below meth c F hr hnm
  refine j_aload_n F d_MO_fail_0 rfl rfl ?_
  refine j_iload_n F d_MO_fail_1 rfl rfl ?_
  refine j_put F (so_h S) (sz_h S) rfl in_MO ty_MO ok_MO nm_MO 0 (by decide) wf_MO_33 rfl (ty := .int) (by decide +kernel) rfl rfl (Nat.le_of_ble_eq_true rfl) d_MO_fail_2 ?_
  refine j_nmW (P := fun M1 => mo_W G M M1 h ta ke le mo pl si cd tl sz ap tf kf lf mf pf sf) (mw_fa (mo_rf S) cd) (fun M1 S1 => ?_)
  refine j_iconst F (v := 0) d_MO_fail_5 (by decide) ?_
  exact j_iret F hr (Nat.le_refl _) (Nat.le_refl _) ⟨rfl, S1⟩ d_MO_fail_6
set_option maxHeartbeats 4000000 in
set_option maxRecDepth 100000 in
theorem c_MO_count (hl : l.stackTraces = false) (S : mo_S G M h ta ke le mo pl si fa tl sz ap tf kf lf mf pf sf) : ct_C l G y_MO_count b_MO_count 1 (some .int) { frames := 0, cells := 0, slots := 0, locals := 0 } [.ref h] M (fun v M1 => v = some (.int sz) ∧ mo_W G M M1 h ta ke le mo pl si 0 tl sz ap tf kf lf mf pf sf) (fun _ _ => False) := by
  refine ct_of hl (by decide +kernel) (Nat.le_of_ble_eq_true rfl) ?_
  intro p e s m args below meth c F hr hnm
  refine j_aload_n F d_MO_count_0 rfl rfl ?_
  refine j_iconst F (v := 0) d_MO_count_1 (by decide) ?_
  refine j_put F (so_h S) (sz_h S) rfl in_MO ty_MO ok_MO nm_MO 0 (by decide) wf_MO_33 rfl (ty := .int) (by decide +kernel) rfl rfl (Nat.le_of_ble_eq_true rfl) d_MO_count_2 ?_
  refine j_nmW (P := fun M1 => mo_W G M M1 h ta ke le mo pl si 0 tl sz ap tf kf lf mf pf sf) (mw_fa (mo_rf S) 0) (fun M1 S1 => ?_)
  refine j_aload_n F d_MO_count_5 rfl rfl ?_
  refine j_get F (so_h S1.1) rfl in_MO 8 (by decide) wf_MO_43 rfl d_MO_count_6 ?_
  exact j_iret F hr (Nat.le_refl _) (Nat.le_refl _) ⟨rfl, S1⟩ d_MO_count_9
end MO1
end
section
/-- one row of the reference's arrays is the version e -/
def mo_E (i : Nat) (e : en_T) (lf kf mf pf sf : Nat → Int32) : Prop := lf i = nI e.1.length ∧ (∀ j, j < e.1.length → kf (40 * i + j) = e.1.getD j 0) ∧ mf i = e.2.1 ∧ pf i = e.2.2.1 ∧ sf i = e.2.2.2
/-- a tape's first bytes -/
def tp_R (k : ke_T) (tf : Nat → Int32) : Prop := ∀ j, j < k.length → tf j = k.getD j 0
theorem ix_40 (v j : Nat) : (40 : Int32) * nI v + nI j = nI (40 * v + j) := by rw [show (40 : Int32) = nI 40 from rfl, pk_mul, nI_add]
theorem oc_k {e : en_T} {k : ke_T} {m : Int32} (h : kc e.1 k ≠ 0) : oc e k m = kc e.1 k := if_neg h
theorem oc_m {e : en_T} {k : ke_T} {m : Int32} (h : kc e.1 k = 0) : oc e k m = if m < e.2.1 then -1 else if e.2.1 < m then 1 else 0 := if_pos h
section MO2
variable {es : List en_T} {l : Launch} {G : gv_T} {M M0 : mp_T} {h ta ke le mo pl si : Nat} {fa tl sz ap : Int32} {tf kf lf mf pf sf : Nat → Int32}
set_option maxHeartbeats 4000000 in
set_option maxRecDepth 100000 in
theorem c_MO_compare (hl : l.stackTraces = false) (S : mo_S G M h ta ke le mo pl si fa tl sz ap tf kf lf mf pf sf) {v : Nat} {e0 : en_T} {k : ke_T} {mm : Int32} (hv : v < 161) (hE : mo_E v e0 lf kf mf pf sf) (hT : tp_R k tf) (h40 : e0.1.length ≤ 40) (h60 : k.length ≤ 60) : ct_C l G y_MO_compare b_MO_compare 6 (some .int) { frames := 0, cells := 0, slots := 0, locals := 0 } [.ref h, .int (nI v), .int (nI k.length), .int mm] M (fun r M1 => M = M1 ∧ ∃ d : Int32, r = some (.int d) ∧ (d < 0 ↔ oc e0 k mm < 0) ∧ (d = 0 ↔ oc e0 k mm = 0)) (fun _ _ => False) := by
  refine ct_of hl (by decide +kernel) (Nat.le_of_ble_eq_true rfl) ?_
  intro p e s m args below meth c F hr hnm
  obtain ⟨hE1, hE2, hE3, -, -⟩ := hE
  have hin : vp_in (nI v) 161 := vp_in_nI hv (by decide)
  have hcl : (nI v).toNatClampNeg = v := nI_clamp (by omega)
  refine j_iconst F (v := 0) d_MO_compare_0 (by decide) ?_
  refine j_istore F (lv1 := [(4, _), (0, _), (1, _), (2, _), (3, _)]) d_MO_compare_1 (by decide) rfl ?_
  refine j_cut (α := Nat) (fun j => j ≤ e0.1.length ∧ j ≤ k.length ∧ (∀ i, i < j → un (e0.1.getD i 0) = un (k.getD i 0)) ∧ (j = e0.1.length ∨ j = k.length)) (fun _ => M) (fun _ => 0) (fun _ => 0) (fun j => [(4, .int (nI j)), (0, .ref h), (1, .int (nI v)), (2, .int (nI k.length)), (3, .int mm)]) 64 (fun _ => []) ?_ (fun at64 => ?_)
  · skip
    intro j hj
    obtain ⟨hj1, hj2, hj3, hj4⟩ := hj
    obtain ⟨hk1, hk2⟩ := kc_end j hj1 hj2 hj3 hj4
    refine j_aload_n F d_MO_compare_64 rfl rfl ?_
    refine j_get F (so_h S) rfl in_MO 4 (by decide) wf_MO_16 rfl d_MO_compare_65 ?_
    refine j_iload_n F d_MO_compare_68 rfl rfl ?_
    refine j_iald F (so_le S) hin d_MO_compare_69 ?_
    refine j_val (y := nI e0.1.length) (by rw [hcl, hE1]) ?_
    refine j_iload_n F d_MO_compare_70 rfl rfl ?_
    refine j_icmp_eq F (tgt := 83) d_MO_compare_71 (by decide) (fun hc => ?_) (fun hc => ?_)
    · skip
      have hlen : e0.1.length = k.length := (nI_eq (by omega) (by omega)).mp hc
      have hk0 : kc e0.1 k = 0 := hk2.mpr hlen
      refine j_aload_n F d_MO_compare_83 rfl rfl ?_
      refine j_get F (so_h S) rfl in_MO 5 (by decide) wf_MO_20 rfl d_MO_compare_84 ?_
      refine j_iload_n F d_MO_compare_87 rfl rfl ?_
      refine j_iald F (so_mo S) hin d_MO_compare_88 ?_
      refine j_val (y := e0.2.1) (by rw [hcl, hE3]) ?_
      refine j_iload_n F d_MO_compare_89 rfl rfl ?_
      refine j_icmp_le F (tgt := 97) d_MO_compare_90 (by decide) (fun hc => ?_) (fun hc => ?_)
      · skip
        refine j_aload_n F d_MO_compare_97 rfl rfl ?_
        refine j_get F (so_h S) rfl in_MO 5 (by decide) wf_MO_20 rfl d_MO_compare_98 ?_
        refine j_iload_n F d_MO_compare_101 rfl rfl ?_
        refine j_iald F (so_mo S) hin d_MO_compare_102 ?_
        refine j_val (y := e0.2.1) (by rw [hcl, hE3]) ?_
        refine j_iload_n F d_MO_compare_103 rfl rfl ?_
        refine j_icmp_ge F (tgt := 111) d_MO_compare_104 (by decide) (fun hc2 => ?_) (fun hc2 => ?_)
        · skip
          refine j_iconst F (v := 0) d_MO_compare_111 (by decide) ?_
          have hmm : e0.2.1 = mm := Int32.le_antisymm hc hc2
          exact j_iret F hr (Nat.le_refl _) (Nat.le_refl _) ⟨rfl, 0, rfl, by rw [oc_m hk0, hmm]; simp [Int32.lt_irrefl]⟩ d_MO_compare_112
        · skip
          refine j_iconst F (v := 1) d_MO_compare_107 (by decide) ?_
          refine j_goto F (tgt := 112) d_MO_compare_108 (by decide) ?_
          have h1 : ¬ mm < e0.2.1 := Int32.not_lt.mpr hc
          have h2 : e0.2.1 < mm := Int32.not_le.mp hc2
          exact j_iret F hr (Nat.le_refl _) (Nat.le_refl _) ⟨rfl, 1, rfl, by rw [oc_m hk0, if_neg h1, if_pos h2]; decide⟩ d_MO_compare_112
      · skip
        refine j_iconst F (v := -1) d_MO_compare_93 (by decide) ?_
        refine j_goto F (tgt := 112) d_MO_compare_94 (by decide) ?_
        have h1 : mm < e0.2.1 := Int32.not_le.mp hc
        exact j_iret F hr (Nat.le_refl _) (Nat.le_refl _) ⟨rfl, -1, rfl, by rw [oc_m hk0, if_pos h1]; decide⟩ d_MO_compare_112
    · skip
      have hlen : e0.1.length ≠ k.length := fun z => hc (by rw [z])
      have hk0 : kc e0.1 k ≠ 0 := fun z => hlen (hk2.mp z)
      refine j_aload_n F d_MO_compare_74 rfl rfl ?_
      refine j_get F (so_h S) rfl in_MO 4 (by decide) wf_MO_16 rfl d_MO_compare_75 ?_
      refine j_iload_n F d_MO_compare_78 rfl rfl ?_
      refine j_iald F (so_le S) hin d_MO_compare_79 ?_
      refine j_val (y := nI e0.1.length) (by rw [hcl, hE1]) ?_
      refine j_iload_n F d_MO_compare_80 rfl rfl ?_
      refine j_isub F d_MO_compare_81 ?_
      exact j_iret F hr (Nat.le_refl _) (Nat.le_refl _) ⟨rfl, _, rfl, by rw [oc_k hk0, sg_lt (by omega) (by omega), sg_eq (by omega) (by omega)]; exact ⟨hk1.symm, hk2.symm⟩⟩ d_MO_compare_82
  refine j_lv (lv1 := [(4, .int (nI 0)), (0, .ref h), (1, .int (nI v)), (2, .int (nI k.length)), (3, .int mm)]) rfl ?_
  refine j_ind (α := Nat) (fun j => e0.1.length - j) (fun _ => M) (fun _ => 0) (fun _ => 0) (fun j => [(4, .int (nI j)), (0, .ref h), (1, .int (nI v)), (2, .int (nI k.length)), (3, .int mm)]) (fun _ => []) (fun j => j ≤ e0.1.length ∧ j ≤ k.length ∧ ∀ i, i < j → un (e0.1.getD i 0) = un (k.getD i 0)) ?_ 0 ⟨Nat.zero_le _, Nat.zero_le _, fun i hi => absurd hi (Nat.not_lt_zero _)⟩
  intro j hj ih
  obtain ⟨hj1, hj2, hj3⟩ := hj
  refine j_iload F d_MO_compare_3 rfl ?_
  refine j_aload_n F d_MO_compare_5 rfl rfl ?_
  refine j_get F (so_h S) rfl in_MO 4 (by decide) wf_MO_16 rfl d_MO_compare_6 ?_
  refine j_iload_n F d_MO_compare_9 rfl rfl ?_
  refine j_iald F (so_le S) hin d_MO_compare_10 ?_
  refine j_val (y := nI e0.1.length) (by rw [hcl, hE1]) ?_
  refine j_icmp_ge F (tgt := 64) d_MO_compare_11 (by decide) (fun hc => ?_) (fun hc => ?_)
  · skip
    exact at64 j ⟨hj1, hj2, hj3, Or.inl (Nat.le_antisymm hj1 ((nI_leI (by omega) (by omega)).mp hc))⟩
  · skip
    have hj4 : j < e0.1.length := Nat.not_le.mp (fun z => hc ((nI_leI (by omega) (by omega)).mpr z))
    refine j_iload F d_MO_compare_14 rfl ?_
    refine j_iload_n F d_MO_compare_16 rfl rfl ?_
    refine j_icmp_ge F (tgt := 64) d_MO_compare_17 (by decide) (fun hc2 => ?_) (fun hc2 => ?_)
    · skip
      exact at64 j ⟨hj1, hj2, hj3, Or.inr (Nat.le_antisymm hj2 ((nI_leI (by omega) (by omega)).mp hc2))⟩
    · skip
      have hj5 : j < k.length := Nat.not_le.mp (fun z => hc2 ((nI_leI (by omega) (by omega)).mpr z))
      refine j_aload_n F d_MO_compare_20 rfl rfl ?_
      refine j_get F (so_h S) rfl in_MO 3 (by decide) wf_MO_13 rfl d_MO_compare_21 ?_
      refine j_bipush F (v := 40) d_MO_compare_24 (by decide) ?_
      refine j_iload_n F d_MO_compare_26 rfl rfl ?_
      refine j_imul F d_MO_compare_27 ?_
      refine j_iload F d_MO_compare_28 rfl ?_
      refine j_iadd F d_MO_compare_30 ?_
      refine j_val (y := nI (40 * v + j)) (ix_40 v j) ?_
      refine j_bald F (so_ke S) (vp_in_nI (by omega) (by decide)) d_MO_compare_31 ?_
      refine j_val (y := e0.1.getD j 0) (by rw [nI_clamp (by omega), hE2 j hj4]) ?_
      refine j_sipush F (v := 255) d_MO_compare_32 (by decide) ?_
      refine j_iand F d_MO_compare_35 ?_
      refine j_val (y := nI (un (e0.1.getD j 0))) (un_and _) ?_
      refine j_aload_n F d_MO_compare_36 rfl rfl ?_
      refine j_get F (so_h S) rfl in_MO 1 (by decide) wf_MO_7 rfl d_MO_compare_37 ?_
      refine j_iload F d_MO_compare_40 rfl ?_
      refine j_bald F (so_ta S) (vp_in_nI (by omega) (by decide)) d_MO_compare_42 ?_
      refine j_val (y := k.getD j 0) (by rw [nI_clamp (by omega), hT j hj5]) ?_
      refine j_sipush F (v := 255) d_MO_compare_43 (by decide) ?_
      refine j_iand F d_MO_compare_46 ?_
      refine j_val (y := nI (un (k.getD j 0))) (un_and _) ?_
      refine j_isub F d_MO_compare_47 ?_
      have u1 := un_lt (e0.1.getD j 0)
      have u2 := un_lt (k.getD j 0)
      refine j_istore F (lv1 := [(5, _), (4, _), (0, _), (1, _), (2, _), (3, _)]) d_MO_compare_48 (by decide) rfl ?_
      refine j_iload F d_MO_compare_50 rfl ?_
      refine j_if_eq F (tgt := 58) d_MO_compare_52 (by decide) (fun hc3 => ?_) (fun hc3 => ?_)
      · skip
        have hu : un (e0.1.getD j 0) = un (k.getD j 0) := (sg_eq (by omega) (by omega)).mp hc3
        refine j_iinc F (lv1 := [(4, _), (5, _), (0, _), (1, _), (2, _), (3, _)]) d_MO_compare_58 rfl (nI_1 j) (by decide) rfl ?_
        refine j_sub [0, 2, 3, 4, 5] rfl ?_
        refine j_goto F (tgt := 3) d_MO_compare_61 (by decide) ?_
        exact ih (j + 1) ⟨hj4, hj5, fun i hi => by
          rcases Nat.lt_succ_iff_lt_or_eq.mp hi with z | z
          · exact hj3 i z
          · rw [z]; exact hu⟩ (by omega)
      · skip
        have hu : un (e0.1.getD j 0) ≠ un (k.getD j 0) := fun z => hc3 ((sg_eq (by omega) (by omega)).mpr z)
        have hkd := kc_diff j hj4 hj5 hj3 hu
        refine j_iload F d_MO_compare_55 rfl ?_
        exact j_iret F hr (Nat.le_refl _) (Nat.le_refl _) ⟨rfl, _, rfl, by rw [oc_k (by omega), sg_lt (by omega) (by omega), sg_eq (by omega) (by omega)]; omega⟩ d_MO_compare_57
/-- the reference's arrays hold the versions es -/
def mo_R (es : List en_T) (lf kf mf pf sf : Nat → Int32) : Prop := es.length ≤ 160 ∧ ∀ i e, es[i]? = some e → mo_E i e lf kf mf pf sf ∧ 1 ≤ e.1.length ∧ e.1.length ≤ 40
theorem no_x {A : Prop} {px : String → mp_T → Prop} {E : String} {M1 : mp_T} (h : False) : A := h.elim
set_option maxHeartbeats 4000000 in
set_option maxRecDepth 100000 in
theorem c_MO_before (hl : l.stackTraces = false) (S : mo_S G M h ta ke le mo pl si fa tl (nI es.length) ap tf kf lf mf pf sf) {k : ke_T} {mm : Int32} (hR : mo_R es lf kf mf pf sf) (hT : tp_R k tf) (h60 : k.length ≤ 60) : ct_C l G y_MO_before b_MO_before 4 (some .int) { frames := 1, cells := 0, slots := 0, locals := 25 } [.ref h, .int (nI k.length), .int mm] M (fun r M1 => M = M1 ∧ r = some (.int (nI (fi es k mm)))) (fun _ _ => False) := by
  refine ct_of hl (by decide +kernel) (Nat.le_of_ble_eq_true rfl) ?_
  intro p e s m args below meth c F hr hnm
  obtain ⟨hR0, hR1⟩ := hR
  refine j_iconst F (v := 0) d_MO_before_0 (by decide) ?_
  refine j_istore_n F (lv1 := [(3, _), (0, _), (1, _), (2, _)]) d_MO_before_1 rfl (by decide) rfl ?_
  refine j_lv (lv1 := [(3, .int (nI 0)), (0, .ref h), (1, .int (nI k.length)), (2, .int mm)]) rfl ?_
  refine j_ind (α := Nat) (fun v => es.length - v) (fun _ => M) (fun _ => 0) (fun _ => 0) (fun v => [(3, .int (nI v)), (0, .ref h), (1, .int (nI k.length)), (2, .int mm)]) (fun _ => []) (fun v => v ≤ es.length ∧ ∀ i e, i < v → es[i]? = some e → oc e k mm < 0) ?_ 0 ⟨Nat.zero_le _, fun i e hi => absurd hi (Nat.not_lt_zero _)⟩
  intro v hv ih
  obtain ⟨hv1, hv2⟩ := hv
  refine j_iload_n F d_MO_before_2 rfl rfl ?_
  refine j_aload_n F d_MO_before_3 rfl rfl ?_
  refine j_get F (so_h S) rfl in_MO 8 (by decide) wf_MO_43 rfl d_MO_before_4 ?_
  refine j_icmp_ge F (tgt := 26) d_MO_before_7 (by decide) (fun hc => ?_) (fun hc => ?_)
  · skip
    have hve : v = es.length := Nat.le_antisymm hv1 ((nI_leI (by omega) (by omega)).mp hc)
    refine j_iload_n F d_MO_before_26 rfl rfl ?_
    exact j_iret F hr (Nat.le_refl _) (Nat.le_refl _) ⟨rfl, by rw [← fi_of hv2 hv1 (fun e he => by rw [hve] at he; simp at he)]⟩ d_MO_before_27
  · skip
    have hv3 : v < es.length := Nat.not_le.mp (fun z => hc ((nI_leI (by omega) (by omega)).mpr z))
    obtain ⟨e0, he0⟩ : ∃ e0, es[v]? = some e0 := ⟨_, List.getElem?_eq_getElem hv3⟩
    obtain ⟨hE, -, h40⟩ := hR1 v e0 he0
    refine j_aload_n F d_MO_before_10 rfl rfl ?_
    refine j_iload_n F d_MO_before_11 rfl rfl ?_
    refine j_iload_n F d_MO_before_12 rfl rfl ?_
    refine j_iload_n F d_MO_before_13 rfl rfl ?_
    refine j_callV F 3 (c_MO_compare hl S (by omega) hE hT h40 h60 (mm := mm)) (so_h S) rfl wl_MO_46 wim_MO_compare wse_MO_compare wi_MO wco_MO_compare (by decide +kernel) (by decide) rfl rfl (Nat.le_of_ble_eq_true rfl) (by decide) (by decide) d_MO_before_14 (fun E M1 hx => hx.elim) (fun r M1 hp => ?_)
    obtain ⟨rfl, d, rfl, hd1, hd2⟩ := hp
    refine j_if_ge F (tgt := 26) d_MO_before_17 (by decide) (fun hc2 => ?_) (fun hc2 => ?_)
    · skip
      have hno : ¬ oc e0 k mm < 0 := fun z => absurd (hd1.mpr z) (Int32.not_lt.mpr hc2)
      refine j_iload_n F d_MO_before_26 rfl rfl ?_
      exact j_iret F hr (Nat.le_refl _) (Nat.le_refl _) ⟨rfl, by rw [← fi_of hv2 hv1 (fun e he => by rw [he0] at he; cases he; exact hno)]⟩ d_MO_before_27
    · skip
      have hyes : oc e0 k mm < 0 := hd1.mp (Int32.not_le.mp hc2)
      refine j_iinc F (lv1 := [(3, _), (0, _), (1, _), (2, _)]) d_MO_before_20 rfl (nI_1 v) (by decide) rfl ?_
      refine j_goto F (tgt := 2) d_MO_before_23 (by decide) ?_
      exact ih (v + 1) ⟨hv3, fun i e hi he => by
        rcases Nat.lt_succ_iff_lt_or_eq.mp hi with z | z
        · exact hv2 i e z he
        · rw [z, he0] at he; cases he; exact hyes⟩ (by omega)
end MO2
end
section
/-- every place holds a byte -/
def by_Q (f : Nat → Int32) : Prop := ∀ q, vp_nar .byte (f q) = f q
theorem by_nar (x : Int32) : vp_nar .byte (vp_nar .byte x) = vp_nar .byte x := pk_vb x
theorem by_upd {f : Nat → Int32} {w : Nat} {x : Int32} (h : by_Q f) (hx : vp_nar .byte x = x) : by_Q (upd f w x) := by
  intro q
  by_cases hq : q = w
  · subst hq; rw [pk_us]; exact hx
  · rw [pk_un hq]; exact h q
/-- row i is what row j was -/
def rw_Q (i j : Nat) (lf kf mf pf sf lf1 kf1 mf1 pf1 sf1 : Nat → Int32) : Prop := lf1 i = lf j ∧ mf1 i = mf j ∧ pf1 i = pf j ∧ sf1 i = sf j ∧ ∀ b, b < 40 → kf1 (40 * i + b) = kf (40 * j + b)
theorem ix_40m {w : Nat} (hw : 1 ≤ w) (j : Nat) : (40 : Int32) * nI w - 40 + nI j = nI (40 * (w - 1) + j) := by
  rw [show (40 : Int32) = nI 40 from rfl, pk_mul, pk_sub (by omega), nI_add]
  congr 1
  omega
theorem ix_m1 {w : Nat} (hw : 1 ≤ w) : nI w - 1 = nI (w - 1) := by
  rw [show (1 : Int32) = nI 1 from rfl, pk_sub hw]
theorem ix_p1 {w : Nat} (hw : 1 ≤ w) : nI w + Int32.ofInt (-1) = nI (w - 1) := sb_m1 hw
section MO3
variable {es : List en_T} {l : Launch} {G : gv_T} {M M0 : mp_T} {h ta ke le mo pl si : Nat} {fa tl sz ap : Int32} {tf kf lf mf pf sf : Nat → Int32}
set_option maxHeartbeats 4000000 in
set_option maxRecDepth 100000 in
theorem c_MO_moveUp (hl : l.stackTraces = false) {n v : Nat} (S : mo_S G M h ta ke le mo pl si fa tl (nI n) ap tf kf lf mf pf sf) (hb : by_Q kf) (hn : n ≤ 160) (hv : v ≤ n) : ct_C l G y_MO_moveUp b_MO_moveUp 4 none { frames := 0, cells := 0, slots := 0, locals := 0 } [.ref h, .int (nI v)] M (fun r M1 => r = none ∧ ∃ (kf1 lf1 mf1 pf1 sf1 : Nat → Int32), mo_W G M M1 h ta ke le mo pl si fa tl (nI n) ap tf kf1 lf1 mf1 pf1 sf1 ∧ by_Q kf1 ∧ (∀ i, v < i → i ≤ n → rw_Q i (i - 1) lf kf mf pf sf lf1 kf1 mf1 pf1 sf1) ∧ ∀ i, i ≤ v → rw_Q i i lf kf mf pf sf lf1 kf1 mf1 pf1 sf1) (fun _ _ => False) := by
  refine ct_of hl (by decide +kernel) (Nat.le_of_ble_eq_true rfl) ?_
  intro p e s m args below meth c F hr hnm
  refine j_aload_n F d_MO_moveUp_0 rfl rfl ?_
  refine j_get F (so_h S) rfl in_MO 8 (by decide) wf_MO_43 rfl d_MO_moveUp_1 ?_
  refine j_istore_n F (lv1 := [(2, _), (0, _), (1, _)]) d_MO_moveUp_4 rfl (by decide) rfl ?_
  refine j_ind (α := Nat × mp_T) (fun x => x.1) (fun x => x.2) (fun _ => 0) (fun _ => 0) (fun x => [(2, .int (nI x.1)), (0, .ref h), (1, .int (nI v))]) (fun _ => []) (fun x => v ≤ x.1 ∧ x.1 ≤ n ∧ ∃ (kf1 lf1 mf1 pf1 sf1 : Nat → Int32), mo_W G M x.2 h ta ke le mo pl si fa tl (nI n) ap tf kf1 lf1 mf1 pf1 sf1 ∧ by_Q kf1 ∧ (∀ i, x.1 < i → i ≤ n → rw_Q i (i - 1) lf kf mf pf sf lf1 kf1 mf1 pf1 sf1) ∧ ∀ i, i ≤ x.1 → rw_Q i i lf kf mf pf sf lf1 kf1 mf1 pf1 sf1) ?_ (n, M) ⟨hv, Nat.le_refl _, kf, lf, mf, pf, sf, mo_rf S, hb, fun i h1 h2 => absurd h1 (by omega), fun i _ => ⟨rfl, rfl, rfl, rfl, fun _ _ => rfl⟩⟩
  intro x hx ih
  obtain ⟨w, Mx⟩ := x
  obtain ⟨hw1, hw2, kf1, lf1, mf1, pf1, sf1, S1, hb1, hup, hlo⟩ := hx
  dsimp only at hw1 hw2 S1 hup hlo ⊢
  refine j_iload_n F d_MO_moveUp_5 rfl rfl ?_
  refine j_iload_n F d_MO_moveUp_6 rfl rfl ?_
  refine j_icmp_le F (tgt := 111) d_MO_moveUp_7 (by decide) (fun hc => ?_) (fun hc => ?_)
  · skip
    have hwv : w = v := Nat.le_antisymm ((nI_leI (by omega) (by omega)).mp hc) hw1
    subst hwv
    exact j_vret F hr (Nat.le_refl _) (Nat.le_refl _) ⟨rfl, kf1, lf1, mf1, pf1, sf1, S1, hb1, hup, hlo⟩ d_MO_moveUp_111
  · skip
    have hwv : v < w := Nat.not_le.mp (fun z => hc ((nI_leI (by omega) (by omega)).mpr z))
    refine j_iconst F (v := 0) d_MO_moveUp_10 (by decide) ?_
    refine j_istore_n F (lv1 := [(3, _), (2, _), (0, _), (1, _)]) d_MO_moveUp_11 rfl (by decide) rfl ?_
    refine j_lv (lv1 := [(3, .int (nI 0)), (2, .int (nI w)), (0, .ref h), (1, .int (nI v))]) rfl ?_
    refine j_ind (α := Nat × mp_T) (fun y => 40 - y.1) (fun y => y.2) (fun _ => 0) (fun _ => 0) (fun y => [(3, .int (nI y.1)), (2, .int (nI w)), (0, .ref h), (1, .int (nI v))]) (fun _ => []) (fun y => y.1 ≤ 40 ∧ ∃ kf2 : Nat → Int32, mo_W G M y.2 h ta ke le mo pl si fa tl (nI n) ap tf kf2 lf1 mf1 pf1 sf1 ∧ by_Q kf2 ∧ (∀ c, c < y.1 → kf2 (40 * w + c) = kf1 (40 * (w - 1) + c)) ∧ ∀ q, (q < 40 * w ∨ 40 * w + y.1 ≤ q) → kf2 q = kf1 q) ?_ (0, Mx) ⟨by omega, kf1, S1, hb1, fun c h1 => absurd h1 (Nat.not_lt_zero _), fun q _ => rfl⟩
    intro y hy ih2
    obtain ⟨j, My⟩ := y
    obtain ⟨hj, kf2, S2, hb2, hk1, hk2⟩ := hy
    dsimp only at hj S2 hk1 hk2 ⊢
    refine j_iload_n F d_MO_moveUp_12 rfl rfl ?_
    refine j_bipush F (v := 40) d_MO_moveUp_13 (by decide) ?_
    refine j_icmp_ge F (tgt := 49) d_MO_moveUp_15 (by decide) (fun hc2 => ?_) (fun hc2 => ?_)
    · skip
      have hj40 : j = 40 := Nat.le_antisymm hj ((nI_leI (a := 40) (by decide) (by omega)).mp hc2)
      subst hj40
      refine j_aload_n F d_MO_moveUp_49 rfl rfl ?_
      refine j_get F (so_h S2.1) rfl in_MO 4 (by decide) wf_MO_16 rfl d_MO_moveUp_50 ?_
      refine j_iload_n F d_MO_moveUp_53 rfl rfl ?_
      refine j_aload_n F d_MO_moveUp_54 rfl rfl ?_
      refine j_get F (so_h S2.1) rfl in_MO 4 (by decide) wf_MO_16 rfl d_MO_moveUp_55 ?_
      refine j_iload_n F d_MO_moveUp_58 rfl rfl ?_
      refine j_iconst F (v := 1) d_MO_moveUp_59 (by decide) ?_
      refine j_isub F d_MO_moveUp_60 ?_
      refine j_val (y := nI (w - 1)) (ix_m1 (by omega)) ?_
      refine j_ialdN F (so_le S2.1) (by omega) (by decide) d_MO_moveUp_61 ?_
      refine j_iastN F (so_le S2.1) (sz_le S2.1) (by omega) (by decide) d_MO_moveUp_62 ?_
      refine j_nmW (P := fun M1 => mo_W G M M1 h ta ke le mo pl si fa tl (nI n) ap tf kf2 (upd lf1 w (lf1 (w - 1))) mf1 pf1 sf1) (mw_lf S2 _) (fun M3 S3 => ?_)
      refine j_aload_n F d_MO_moveUp_63 rfl rfl ?_
      refine j_get F (so_h S3.1) rfl in_MO 5 (by decide) wf_MO_20 rfl d_MO_moveUp_64 ?_
      refine j_iload_n F d_MO_moveUp_67 rfl rfl ?_
      refine j_aload_n F d_MO_moveUp_68 rfl rfl ?_
      refine j_get F (so_h S3.1) rfl in_MO 5 (by decide) wf_MO_20 rfl d_MO_moveUp_69 ?_
      refine j_iload_n F d_MO_moveUp_72 rfl rfl ?_
      refine j_iconst F (v := 1) d_MO_moveUp_73 (by decide) ?_
      refine j_isub F d_MO_moveUp_74 ?_
      refine j_val (y := nI (w - 1)) (ix_m1 (by omega)) ?_
      refine j_ialdN F (so_mo S3.1) (by omega) (by decide) d_MO_moveUp_75 ?_
      refine j_iastN F (so_mo S3.1) (sz_mo S3.1) (by omega) (by decide) d_MO_moveUp_76 ?_
      refine j_nmW (P := fun M1 => mo_W G M M1 h ta ke le mo pl si fa tl (nI n) ap tf kf2 (upd lf1 w (lf1 (w - 1))) (upd mf1 w (mf1 (w - 1))) pf1 sf1) (mw_mf S3 _) (fun M4 S4 => ?_)
      refine j_aload_n F d_MO_moveUp_77 rfl rfl ?_
      refine j_get F (so_h S4.1) rfl in_MO 6 (by decide) wf_MO_23 rfl d_MO_moveUp_78 ?_
      refine j_iload_n F d_MO_moveUp_81 rfl rfl ?_
      refine j_aload_n F d_MO_moveUp_82 rfl rfl ?_
      refine j_get F (so_h S4.1) rfl in_MO 6 (by decide) wf_MO_23 rfl d_MO_moveUp_83 ?_
      refine j_iload_n F d_MO_moveUp_86 rfl rfl ?_
      refine j_iconst F (v := 1) d_MO_moveUp_87 (by decide) ?_
      refine j_isub F d_MO_moveUp_88 ?_
      refine j_val (y := nI (w - 1)) (ix_m1 (by omega)) ?_
      refine j_ialdN F (so_pl S4.1) (by omega) (by decide) d_MO_moveUp_89 ?_
      refine j_iastN F (so_pl S4.1) (sz_pl S4.1) (by omega) (by decide) d_MO_moveUp_90 ?_
      refine j_nmW (P := fun M1 => mo_W G M M1 h ta ke le mo pl si fa tl (nI n) ap tf kf2 (upd lf1 w (lf1 (w - 1))) (upd mf1 w (mf1 (w - 1))) (upd pf1 w (pf1 (w - 1))) sf1) (mw_pf S4 _) (fun M5 S5 => ?_)
      refine j_aload_n F d_MO_moveUp_91 rfl rfl ?_
      refine j_get F (so_h S5.1) rfl in_MO 7 (by decide) wf_MO_26 rfl d_MO_moveUp_92 ?_
      refine j_iload_n F d_MO_moveUp_95 rfl rfl ?_
      refine j_aload_n F d_MO_moveUp_96 rfl rfl ?_
      refine j_get F (so_h S5.1) rfl in_MO 7 (by decide) wf_MO_26 rfl d_MO_moveUp_97 ?_
      refine j_iload_n F d_MO_moveUp_100 rfl rfl ?_
      refine j_iconst F (v := 1) d_MO_moveUp_101 (by decide) ?_
      refine j_isub F d_MO_moveUp_102 ?_
      refine j_val (y := nI (w - 1)) (ix_m1 (by omega)) ?_
      refine j_ialdN F (so_si S5.1) (by omega) (by decide) d_MO_moveUp_103 ?_
      refine j_iastN F (so_si S5.1) (sz_si S5.1) (by omega) (by decide) d_MO_moveUp_104 ?_
      refine j_nmW (P := fun M1 => mo_W G M M1 h ta ke le mo pl si fa tl (nI n) ap tf kf2 (upd lf1 w (lf1 (w - 1))) (upd mf1 w (mf1 (w - 1))) (upd pf1 w (pf1 (w - 1))) (upd sf1 w (sf1 (w - 1)))) (mw_sf S5 _) (fun M6 S6 => ?_)
      refine j_iinc F (lv1 := [(2, _), (3, _), (0, _), (1, _)]) d_MO_moveUp_105 rfl (ix_p1 (by omega)) (by decide) rfl ?_
      refine j_sub [0, 2, 3] rfl ?_
      refine j_goto F (tgt := 5) d_MO_moveUp_108 (by decide) ?_
      refine ih (w - 1, M6) ⟨by dsimp only; omega, by dsimp only; omega, kf2, _, _, _, _, S6, hb2, ?_, ?_⟩ (by dsimp only; omega)
      · intro i h1 h2
        dsimp only at h1
        by_cases hi : i = w
        · subst hi
          obtain ⟨q1, q2, q3, q4, q5⟩ := hlo (i - 1) (by omega)
          exact ⟨by rw [pk_us, q1], by rw [pk_us, q2], by rw [pk_us, q3], by rw [pk_us, q4], fun c hc9 => by rw [hk1 c hc9, q5 c hc9]⟩
        · obtain ⟨q1, q2, q3, q4, q5⟩ := hup i (by omega) h2
          exact ⟨by rw [pk_un hi, q1], by rw [pk_un hi, q2], by rw [pk_un hi, q3], by rw [pk_un hi, q4], fun c hc9 => by rw [hk2 _ (by omega), q5 c hc9]⟩
      · intro i h1
        dsimp only at h1
        have hi : i ≠ w := by omega
        obtain ⟨q1, q2, q3, q4, q5⟩ := hlo i (by omega)
        exact ⟨by rw [pk_un hi, q1], by rw [pk_un hi, q2], by rw [pk_un hi, q3], by rw [pk_un hi, q4], fun c hc9 => by rw [hk2 _ (by omega), q5 c hc9]⟩
    · skip
      have hj40 : j < 40 := Nat.not_le.mp (fun z => hc2 ((nI_leI (a := 40) (by decide) (by omega)).mpr z))
      refine j_aload_n F d_MO_moveUp_18 rfl rfl ?_
      refine j_get F (so_h S2.1) rfl in_MO 3 (by decide) wf_MO_13 rfl d_MO_moveUp_19 ?_
      refine j_bipush F (v := 40) d_MO_moveUp_22 (by decide) ?_
      refine j_iload_n F d_MO_moveUp_24 rfl rfl ?_
      refine j_imul F d_MO_moveUp_25 ?_
      refine j_iload_n F d_MO_moveUp_26 rfl rfl ?_
      refine j_iadd F d_MO_moveUp_27 ?_
      refine j_val (y := nI (40 * w + j)) (ix_40 w j) ?_
      refine j_aload_n F d_MO_moveUp_28 rfl rfl ?_
      refine j_get F (so_h S2.1) rfl in_MO 3 (by decide) wf_MO_13 rfl d_MO_moveUp_29 ?_
      refine j_bipush F (v := 40) d_MO_moveUp_32 (by decide) ?_
      refine j_iload_n F d_MO_moveUp_34 rfl rfl ?_
      refine j_imul F d_MO_moveUp_35 ?_
      refine j_bipush F (v := 40) d_MO_moveUp_36 (by decide) ?_
      refine j_isub F d_MO_moveUp_38 ?_
      refine j_iload_n F d_MO_moveUp_39 rfl rfl ?_
      refine j_iadd F d_MO_moveUp_40 ?_
      refine j_val (y := nI (40 * (w - 1) + j)) (ix_40m (by omega) j) ?_
      refine j_baldN F (so_ke S2.1) (by omega) (by decide) d_MO_moveUp_41 ?_
      refine j_bastN F (so_ke S2.1) (sz_ke S2.1) (by omega) (by decide) (hb2 _) d_MO_moveUp_42 ?_
      refine j_nmW (P := fun M1 => mo_W G M M1 h ta ke le mo pl si fa tl (nI n) ap tf (upd kf2 (40 * w + j) (kf2 (40 * (w - 1) + j))) lf1 mf1 pf1 sf1) (mw_kf S2 _) (fun M3 S3 => ?_)
      refine j_iinc F (lv1 := [(3, _), (2, _), (0, _), (1, _)]) d_MO_moveUp_43 rfl (nI_1 j) (by decide) rfl ?_
      refine j_goto F (tgt := 12) d_MO_moveUp_46 (by decide) ?_
      refine ih2 (j + 1, M3) ⟨hj40, _, S3, by_upd hb2 (hb2 _), ?_, ?_⟩ (by dsimp only; omega)
      · intro c hc9
        dsimp only at hc9
        by_cases hcj : c = j
        · subst hcj
          rw [pk_us, hk2 _ (by omega)]
        · rw [pk_un (by omega), hk1 c (by omega)]
      · intro q hq
        dsimp only at hq
        rw [pk_un (by omega), hk2 q (by omega)]
end MO3
end
section
/-- the reference holds the state σ -/
def mo_A (G : gv_T) (M0 M : mp_T) (h ta ke le mo pl si : Nat) (fa : Int32) (σ : sg_T) : Prop := sg_ok σ ∧ ∃ (tf kf lf mf pf sf : Nat → Int32), mo_W G M0 M h ta ke le mo pl si fa (nI σ.1.length) (nI σ.2.1.length) (cu_I σ.2.2) tf kf lf mf pf sf ∧ tp_R σ.1 tf ∧ by_Q tf ∧ by_Q kf ∧ mo_R σ.2.1 lf kf mf pf sf
theorem tp_take {k : ke_T} {tf : Nat → Int32} (n : Nat) (h : tp_R k tf) : tp_R (k.take n) tf := by
  intro j hj
  rw [List.length_take] at hj
  rw [h j (by omega)]
  simp only [List.getD_eq_getElem?_getD]
  rw [List.getElem?_take, if_pos (by omega)]
theorem tp_nil (tf : Nat → Int32) : tp_R [] tf := fun j hj => absurd hj (Nat.not_lt_zero _)
theorem mo_R0 (lf kf mf pf sf : Nat → Int32) : mo_R [] lf kf mf pf sf := ⟨Nat.zero_le _, fun i e he => by simp at he⟩
theorem sg_k {σ : sg_T} {c : Option Nat} (h : sg_ok σ) (hc : ∀ i, c = some i → i < σ.2.1.length) : sg_ok ([], σ.2.1, c) := ⟨Nat.zero_le _, fun _ h => (by cases h), h.2.2.1, h.2.2.2.1, hc⟩
theorem sg_c {σ : sg_T} {c : Option Nat} (h : sg_ok σ) (hc : ∀ i, c = some i → i < σ.2.1.length) : sg_ok (σ.1, σ.2.1, c) := ⟨h.1, h.2.1, h.2.2.1, h.2.2.2.1, hc⟩
section MO4
variable {es : List en_T} {σ : sg_T} {l : Launch} {G : gv_T} {M M0 : mp_T} {h ta ke le mo pl si : Nat} {fa tl sz ap : Int32} {tf kf lf mf pf sf : Nat → Int32}
set_option maxHeartbeats 4000000 in
set_option maxRecDepth 100000 in
theorem c_MO_go1 (hl : l.stackTraces = false) (S : mo_S G M h ta ke le mo pl si fa tl sz ap tf kf lf mf pf sf) {v : Nat} (hv : v < 161) (cd : Int32) : ct_C l G y_MO_go b_MO_go 4 (some .int) { frames := 1, cells := 0, slots := 0, locals := 21 } [.ref h, .int (nI v), .int 1, .int cd] M (fun r M1 => r = some (.int (pf v)) ∧ mo_W G M M1 h ta ke le mo pl si fa tl sz (nI v) tf kf lf mf pf sf) (fun _ _ => False) := by
  refine ct_of hl (by decide +kernel) (Nat.le_of_ble_eq_true rfl) ?_
  intro p e s m args below meth c F hr hnm
  refine j_aload_n F d_MO_go_0 rfl rfl ?_
  refine j_iload_n F d_MO_go_1 rfl rfl ?_
  refine j_if_eq F (tgt := 9) d_MO_go_2 (by decide) (fun hc => absurd hc (by decide)) (fun hc => ?_)
  refine j_iload_n F d_MO_go_5 rfl rfl ?_
  refine j_goto F (tgt := 10) d_MO_go_6 (by decide) ?_
  refine j_put F (so_h S) (sz_h S) rfl in_MO ty_MO ok_MO nm_MO 9 (by decide) wf_MO_29 rfl (ty := .int) (by decide +kernel) rfl rfl (Nat.le_of_ble_eq_true rfl) d_MO_go_10 ?_
  refine j_nmW (P := fun M1 => mo_W G M M1 h ta ke le mo pl si fa tl sz (nI v) tf kf lf mf pf sf) (mw_ap (mo_rf S) _) (fun M1 S1 => ?_)
  refine j_iload_n F d_MO_go_13 rfl rfl ?_
  refine j_if_eq F (tgt := 26) d_MO_go_14 (by decide) (fun hc => absurd hc (by decide)) (fun hc => ?_)
  refine j_aload_n F d_MO_go_17 rfl rfl ?_
  refine j_get F (so_h S1.1) rfl in_MO 6 (by decide) wf_MO_23 rfl d_MO_go_18 ?_
  refine j_iload_n F d_MO_go_21 rfl rfl ?_
  refine j_ialdN F (so_pl S1.1) hv (by decide) d_MO_go_22 ?_
  refine j_goto F (tgt := 31) d_MO_go_23 (by decide) ?_
  exact j_iret F hr (Nat.le_refl _) (Nat.le_refl _) ⟨rfl, S1⟩ d_MO_go_31
set_option maxHeartbeats 4000000 in
set_option maxRecDepth 100000 in
theorem c_MO_go0 (hl : l.stackTraces = false) (S : mo_S G M h ta ke le mo pl si fa tl sz ap tf kf lf mf pf sf) (z cd : Int32) : ct_C l G y_MO_go b_MO_go 4 (some .int) { frames := 1, cells := 0, slots := 0, locals := 21 } [.ref h, .int z, .int 0, .int cd] M (fun r M1 => r = some (.int 0) ∧ mo_W G M M1 h ta ke le mo pl si cd tl sz (-1) tf kf lf mf pf sf) (fun _ _ => False) := by
  refine ct_of hl (by decide +kernel) (Nat.le_of_ble_eq_true rfl) ?_
  intro p e s m args below meth c F hr hnm
  refine j_aload_n F d_MO_go_0 rfl rfl ?_
  refine j_iload_n F d_MO_go_1 rfl rfl ?_
  refine j_if_eq F (tgt := 9) d_MO_go_2 (by decide) (fun hc => ?_) (fun hc => absurd rfl hc)
  refine j_iconst F (v := -1) d_MO_go_9 (by decide) ?_
  refine j_put F (so_h S) (sz_h S) rfl in_MO ty_MO ok_MO nm_MO 9 (by decide) wf_MO_29 rfl (ty := .int) (by decide +kernel) rfl rfl (Nat.le_of_ble_eq_true rfl) d_MO_go_10 ?_
  refine j_nmW (P := fun M1 => mo_W G M M1 h ta ke le mo pl si fa tl sz (-1) tf kf lf mf pf sf) (mw_ap (mo_rf S) _) (fun M1 S1 => ?_)
  refine j_iload_n F d_MO_go_13 rfl rfl ?_
  refine j_if_eq F (tgt := 26) d_MO_go_14 (by decide) (fun hc => ?_) (fun hc => absurd rfl hc)
  refine j_aload_n F d_MO_go_26 rfl rfl ?_
  refine j_iload_n F d_MO_go_27 rfl rfl ?_
  refine j_callV F 1 (c_MO_fail hl S1.1 cd) (so_h S1.1) rfl wl_MO_39 wim_MO_fail wse_MO_fail wi_MO wco_MO_fail (by decide +kernel) (by decide) rfl rfl (Nat.le_of_ble_eq_true rfl) (by decide) (by decide) d_MO_go_28 (fun E M1 hx => hx.elim) (fun r M1 hp => ?_)
  obtain ⟨rfl, W1⟩ := hp
  exact j_iret F hr (Nat.le_refl _) (Nat.le_refl _) ⟨rfl, W1.1, fun q hq => (W1.2 q hq).trans (S1.2 q hq)⟩ d_MO_go_31
theorem mw_tr {M1 M2 : mp_T} {fa1 tl1 sz1 ap1 : Int32} {tf1 kf1 lf1 mf1 pf1 sf1 : Nat → Int32} (h1 : mo_W G M M1 h ta ke le mo pl si fa tl sz ap tf kf lf mf pf sf) (h2 : mo_W G M1 M2 h ta ke le mo pl si fa1 tl1 sz1 ap1 tf1 kf1 lf1 mf1 pf1 sf1) : mo_W G M M2 h ta ke le mo pl si fa1 tl1 sz1 ap1 tf1 kf1 lf1 mf1 pf1 sf1 := ⟨h2.1, fun q hq => (h2.2 q hq).trans (h1.2 q hq)⟩
set_option maxHeartbeats 4000000 in
set_option maxRecDepth 100000 in
theorem c_MO_clear (hl : l.stackTraces = false) (A : mo_A G M M h ta ke le mo pl si fa σ) : ct_C l G y_MO_clear b_MO_clear 2 (some .int) { frames := 0, cells := 0, slots := 0, locals := 0 } [.ref h] M (fun r M1 => r = some (.int (sp_clear σ).2.1) ∧ mo_A G M M1 h ta ke le mo pl si (nI (sp_clear σ).1) (sp_clear σ).2.2) (fun _ _ => False) := by
  refine ct_of hl (by decide +kernel) (Nat.le_of_ble_eq_true rfl) ?_
  intro p e s m args below meth c F hr hnm
  obtain ⟨hok, tf, kf, lf, mf, pf, sf, ⟨S, -⟩, hT, hbt, hbk, hR⟩ := A
  obtain ⟨ok1, ok2, ok3, ok4, ok5⟩ := hok
  refine j_aload_n F d_MO_clear_0 rfl rfl ?_
  refine j_iconst F (v := 0) d_MO_clear_1 (by decide) ?_
  refine j_put F (so_h S) (sz_h S) rfl in_MO ty_MO ok_MO nm_MO 0 (by decide) wf_MO_33 rfl (ty := .int) (by decide +kernel) rfl rfl (Nat.le_of_ble_eq_true rfl) d_MO_clear_2 ?_
  refine j_nmW (P := fun M1 => mo_W G M M1 h ta ke le mo pl si 0 (nI σ.1.length) (nI σ.2.1.length) (cu_I σ.2.2) tf kf lf mf pf sf) (mw_fa (mo_rf S) 0) (fun M1 S1 => ?_)
  refine j_aload_n F d_MO_clear_5 rfl rfl ?_
  refine j_get F (so_h S1.1) rfl in_MO 8 (by decide) wf_MO_43 rfl d_MO_clear_6 ?_
  refine j_istore_n F (lv1 := [(1, _), (0, _)]) d_MO_clear_9 rfl (by decide) rfl ?_
  refine j_aload_n F d_MO_clear_10 rfl rfl ?_
  refine j_iconst F (v := 0) d_MO_clear_11 (by decide) ?_
  refine j_put F (so_h S1.1) (sz_h S1.1) rfl in_MO ty_MO ok_MO nm_MO 8 (by decide) wf_MO_43 rfl (ty := .int) (by decide +kernel) rfl rfl (Nat.le_of_ble_eq_true rfl) d_MO_clear_12 ?_
  refine j_nmW (P := fun M1 => mo_W G M M1 h ta ke le mo pl si 0 (nI σ.1.length) 0 (cu_I σ.2.2) tf kf lf mf pf sf) (mw_sz S1 0) (fun M2 S2 => ?_)
  refine j_aload_n F d_MO_clear_15 rfl rfl ?_
  refine j_iconst F (v := -1) d_MO_clear_16 (by decide) ?_
  refine j_put F (so_h S2.1) (sz_h S2.1) rfl in_MO ty_MO ok_MO nm_MO 9 (by decide) wf_MO_29 rfl (ty := .int) (by decide +kernel) rfl rfl (Nat.le_of_ble_eq_true rfl) d_MO_clear_17 ?_
  refine j_nmW (P := fun M1 => mo_W G M M1 h ta ke le mo pl si 0 (nI σ.1.length) 0 (-1) tf kf lf mf pf sf) (mw_ap S2 (-1)) (fun M3 S3 => ?_)
  refine j_iload_n F d_MO_clear_20 rfl rfl ?_
  exact j_iret F hr (Nat.le_refl _) (Nat.le_refl _) ⟨rfl, ⟨ok1, ok2, Nat.zero_le _, fun e he => (by cases he), fun c hc => (by cases hc)⟩, tf, kf, lf, mf, pf, sf, S3, hT, hbt, hbk, mo_R0 _ _ _ _ _⟩ d_MO_clear_21
set_option maxHeartbeats 4000000 in
set_option maxRecDepth 100000 in
theorem c_MO_end (hl : l.stackTraces = false) (A : mo_A G M M h ta ke le mo pl si fa σ) (n : Int32) : ct_C l G y_MO_end b_MO_end 2 (some .int) { frames := 1, cells := 0, slots := 0, locals := 21 } [.ref h, .int n] M (fun r M1 => r = some (.int (sp_end n σ).2.1) ∧ mo_A G M M1 h ta ke le mo pl si (nI (sp_end n σ).1) (sp_end n σ).2.2) (fun _ _ => False) := by
  refine ct_of hl (by decide +kernel) (Nat.le_of_ble_eq_true rfl) ?_
  intro p e s m args below meth c F hr hnm
  obtain ⟨hok, tf, kf, lf, mf, pf, sf, ⟨S, -⟩, hT, hbt, hbk, hR⟩ := A
  obtain ⟨ok1, ok2, ok3, ok4, ok5⟩ := hok
  refine j_aload_n F d_MO_end_0 rfl rfl ?_
  refine j_iconst F (v := 0) d_MO_end_1 (by decide) ?_
  refine j_put F (so_h S) (sz_h S) rfl in_MO ty_MO ok_MO nm_MO 0 (by decide) wf_MO_33 rfl (ty := .int) (by decide +kernel) rfl rfl (Nat.le_of_ble_eq_true rfl) d_MO_end_2 ?_
  refine j_nmW (P := fun M1 => mo_W G M M1 h ta ke le mo pl si 0 (nI σ.1.length) (nI σ.2.1.length) (cu_I σ.2.2) tf kf lf mf pf sf) (mw_fa (mo_rf S) 0) (fun M1 S1 => ?_)
  refine j_iload_n F d_MO_end_5 rfl rfl ?_
  refine j_if_lt F (tgt := 17) d_MO_end_6 (by decide) (fun hc => ?_) (fun hc => ?_)
  · skip
    have e0 : sp_end n σ = (1, 0, σ) := if_pos (Or.inl hc)
    rw [e0]
    refine j_aload_n F d_MO_end_17 rfl rfl ?_
    refine j_iconst F (v := 1) d_MO_end_18 (by decide) ?_
    refine j_callV F 1 (c_MO_fail hl S1.1 1) (so_h S1.1) rfl wl_MO_39 wim_MO_fail wse_MO_fail wi_MO wco_MO_fail (by decide +kernel) (by decide) rfl rfl (Nat.le_of_ble_eq_true rfl) (by decide) (by decide) d_MO_end_19 (fun E M1 hx => hx.elim) (fun r M1 hp => ?_)
    obtain ⟨rfl, W1⟩ := hp
    exact j_iret F hr (Nat.le_refl _) (Nat.le_refl _) ⟨rfl, ⟨ok1, ok2, ok3, ok4, ok5⟩, tf, kf, lf, mf, pf, sf, mw_tr S1 W1, hT, hbt, hbk, hR⟩ d_MO_end_22
  · skip
    refine j_iload_n F d_MO_end_9 rfl rfl ?_
    refine j_aload_n F d_MO_end_10 rfl rfl ?_
    refine j_get F (so_h S1.1) rfl in_MO 2 (by decide) wf_MO_36 rfl d_MO_end_11 ?_
    refine j_icmp_le F (tgt := 23) d_MO_end_14 (by decide) (fun hc2 => ?_) (fun hc2 => ?_)
    · skip
      have e0 : sp_end n σ = (0, n, (σ.1.take n.toNatClampNeg, σ.2)) := if_neg (fun z => z.elim hc (fun z => absurd hc2 (Int32.not_le.mpr z)))
      rw [e0]
      refine j_aload_n F d_MO_end_23 rfl rfl ?_
      refine j_iload_n F d_MO_end_24 rfl rfl ?_
      refine j_put F (so_h S1.1) (sz_h S1.1) rfl in_MO ty_MO ok_MO nm_MO 2 (by decide) wf_MO_36 rfl (ty := .int) (by decide +kernel) rfl rfl (Nat.le_of_ble_eq_true rfl) d_MO_end_25 ?_
      refine j_nmW (P := fun M1 => mo_W G M M1 h ta ke le mo pl si 0 n (nI σ.2.1.length) (cu_I σ.2.2) tf kf lf mf pf sf) (mw_tl S1 n) (fun M2 S2 => ?_)
      refine j_iload_n F d_MO_end_28 rfl rfl ?_
      obtain ⟨j, hj1, rfl⟩ := nI_of hc
      have hj2 : j ≤ σ.1.length := (nI_leI hj1 (by omega)).mp hc2
      have hlen : (σ.1.take (nI j).toNatClampNeg).length = j := by rw [nI_clamp hj1, List.length_take]; omega
      refine j_iret F hr (Nat.le_refl _) (Nat.le_refl _) ⟨rfl, ⟨by dsimp only; omega, fun x hx => ok2 x (List.mem_of_mem_take hx), ok3, ok4, ok5⟩, tf, kf, lf, mf, pf, sf, ?_, tp_take _ hT, hbt, hbk, hR⟩ d_MO_end_29
      dsimp only
      rw [hlen]
      exact S2
    · skip
      have e0 : sp_end n σ = (1, 0, σ) := if_pos (Or.inr (Int32.not_le.mp hc2))
      rw [e0]
      refine j_aload_n F d_MO_end_17 rfl rfl ?_
      refine j_iconst F (v := 1) d_MO_end_18 (by decide) ?_
      refine j_callV F 1 (c_MO_fail hl S1.1 1) (so_h S1.1) rfl wl_MO_39 wim_MO_fail wse_MO_fail wi_MO wco_MO_fail (by decide +kernel) (by decide) rfl rfl (Nat.le_of_ble_eq_true rfl) (by decide) (by decide) d_MO_end_19 (fun E M1 hx => hx.elim) (fun r M1 hp => ?_)
      obtain ⟨rfl, W1⟩ := hp
      exact j_iret F hr (Nat.le_refl _) (Nat.le_refl _) ⟨rfl, ⟨ok1, ok2, ok3, ok4, ok5⟩, tf, kf, lf, mf, pf, sf, mw_tr S1 W1, hT, hbt, hbk, hR⟩ d_MO_end_22
set_option maxHeartbeats 4000000 in
set_option maxRecDepth 100000 in
theorem c_MO_first (hl : l.stackTraces = false) (A : mo_A G M M h ta ke le mo pl si fa σ) : ct_C l G y_MO_first b_MO_first 1 (some .int) { frames := 2, cells := 0, slots := 0, locals := 44 } [.ref h] M (fun r M1 => r = some (.int (sp_first σ).2.1) ∧ mo_A G M M1 h ta ke le mo pl si (nI (sp_first σ).1) (sp_first σ).2.2) (fun _ _ => False) := by
  refine ct_of hl (by decide +kernel) (Nat.le_of_ble_eq_true rfl) ?_
  intro p e s m args below meth c F hr hnm
  obtain ⟨hok, tf, kf, lf, mf, pf, sf, ⟨S, -⟩, hT, hbt, hbk, hR⟩ := A
  obtain ⟨ok1, ok2, ok3, ok4, ok5⟩ := hok
  refine j_aload_n F d_MO_first_0 rfl rfl ?_
  refine j_iconst F (v := 0) d_MO_first_1 (by decide) ?_
  refine j_put F (so_h S) (sz_h S) rfl in_MO ty_MO ok_MO nm_MO 0 (by decide) wf_MO_33 rfl (ty := .int) (by decide +kernel) rfl rfl (Nat.le_of_ble_eq_true rfl) d_MO_first_2 ?_
  refine j_nmW (P := fun M1 => mo_W G M M1 h ta ke le mo pl si 0 (nI σ.1.length) (nI σ.2.1.length) (cu_I σ.2.2) tf kf lf mf pf sf) (mw_fa (mo_rf S) 0) (fun M1 S1 => ?_)
  refine j_aload_n F d_MO_first_5 rfl rfl ?_
  refine j_iconst F (v := 0) d_MO_first_6 (by decide) ?_
  refine j_aload_n F d_MO_first_7 rfl rfl ?_
  refine j_get F (so_h S1.1) rfl in_MO 8 (by decide) wf_MO_43 rfl d_MO_first_8 ?_
  refine j_if_le F (tgt := 18) d_MO_first_11 (by decide) (fun hc => ?_) (fun hc => ?_)
  · skip
    have h0 : σ.2.1.length ≤ 0 := (nI_leI (b := 0) (by omega) (by decide)).mp hc
    refine j_iconst F (v := 0) d_MO_first_18 (by decide) ?_
    refine j_iconst F (v := 1) d_MO_first_19 (by decide) ?_
    have e0 : sp_first σ = (1, 0, (σ.1, σ.2.1, none)) := go_no (Or.inl h0)
    rw [e0]
    refine j_callV F 3 (c_MO_go0 hl S1.1 0 1) (so_h S1.1) rfl wl_MO_58 wim_MO_go wse_MO_go wi_MO wco_MO_go (by decide +kernel) (by decide) rfl rfl (Nat.le_of_ble_eq_true rfl) (by decide) (by decide) d_MO_first_20 (fun E M1 hx => hx.elim) (fun r M1 hp => ?_)
    obtain ⟨rfl, W1⟩ := hp
    exact j_iret F hr (Nat.le_refl _) (Nat.le_refl _) ⟨rfl, sg_c ⟨ok1, ok2, ok3, ok4, ok5⟩ (fun i hi => by cases hi), tf, kf, lf, mf, pf, sf, mw_tr S1 W1, hT, hbt, hbk, hR⟩ d_MO_first_23
  · skip
    have h0 : 0 < σ.2.1.length := Nat.not_le.mp (fun z => hc ((nI_leI (b := 0) (by omega) (by decide)).mpr z))
    obtain ⟨e1, he1⟩ : ∃ e1, σ.2.1[0]? = some e1 := ⟨_, List.getElem?_eq_getElem h0⟩
    refine j_iconst F (v := 1) d_MO_first_14 (by decide) ?_
    refine j_goto F (tgt := 19) d_MO_first_15 (by decide) ?_
    refine j_iconst F (v := 1) d_MO_first_19 (by decide) ?_
    have e0 : sp_first σ = (0, e1.2.2.1, (σ.1, σ.2.1, some 0)) := go_ok he1
    rw [e0]
    refine j_callV F 3 (c_MO_go1 hl S1.1 (v := 0) (by omega) 1) (so_h S1.1) rfl wl_MO_58 wim_MO_go wse_MO_go wi_MO wco_MO_go (by decide +kernel) (by decide) rfl rfl (Nat.le_of_ble_eq_true rfl) (by decide) (by decide) d_MO_first_20 (fun E M1 hx => hx.elim) (fun r M1 hp => ?_)
    obtain ⟨rfl, W1⟩ := hp
    exact j_iret F hr (Nat.le_refl _) (Nat.le_refl _) ⟨by rw [((hR.2 0 e1 he1).1).2.2.2.1], sg_c ⟨ok1, ok2, ok3, ok4, ok5⟩ (fun i hi => by cases hi; omega), tf, kf, lf, mf, pf, sf, mw_tr S1 W1, hT, hbt, hbk, hR⟩ d_MO_first_23
set_option maxHeartbeats 4000000 in
set_option maxRecDepth 100000 in
theorem c_MO_next (hl : l.stackTraces = false) (A : mo_A G M M h ta ke le mo pl si fa σ) : ct_C l G y_MO_next b_MO_next 1 (some .int) { frames := 2, cells := 0, slots := 0, locals := 44 } [.ref h] M (fun r M1 => r = some (.int (sp_next σ).2.1) ∧ mo_A G M M1 h ta ke le mo pl si (nI (sp_next σ).1) (sp_next σ).2.2) (fun _ _ => False) := by
  refine ct_of hl (by decide +kernel) (Nat.le_of_ble_eq_true rfl) ?_
  intro p e s m args below meth c F hr hnm
  obtain ⟨hok, tf, kf, lf, mf, pf, sf, ⟨S, -⟩, hT, hbt, hbk, hR⟩ := A
  obtain ⟨ok1, ok2, ok3, ok4, ok5⟩ := hok
  refine j_aload_n F d_MO_next_0 rfl rfl ?_
  refine j_iconst F (v := 0) d_MO_next_1 (by decide) ?_
  refine j_put F (so_h S) (sz_h S) rfl in_MO ty_MO ok_MO nm_MO 0 (by decide) wf_MO_33 rfl (ty := .int) (by decide +kernel) rfl rfl (Nat.le_of_ble_eq_true rfl) d_MO_next_2 ?_
  refine j_nmW (P := fun M1 => mo_W G M M1 h ta ke le mo pl si 0 (nI σ.1.length) (nI σ.2.1.length) (cu_I σ.2.2) tf kf lf mf pf sf) (mw_fa (mo_rf S) 0) (fun M1 S1 => ?_)
  cases hcur : σ.2.2 with
  | none =>
    rw [hcur] at S1
    refine j_aload_n F d_MO_next_5 rfl rfl ?_
    refine j_aload_n F d_MO_next_6 rfl rfl ?_
    refine j_get F (so_h S1.1) rfl in_MO 9 (by decide) wf_MO_29 rfl d_MO_next_7 ?_
    refine j_iconst F (v := 1) d_MO_next_10 (by decide) ?_
    refine j_iadd F d_MO_next_11 ?_
    refine j_aload_n F d_MO_next_12 rfl rfl ?_
    refine j_get F (so_h S1.1) rfl in_MO 9 (by decide) wf_MO_29 rfl d_MO_next_13 ?_
    refine j_if_lt F (tgt := 36) d_MO_next_16 (by decide) (fun hc => ?_) (fun hc => absurd (show (-1 : Int32) < 0 by decide) hc)
    refine j_iconst F (v := 0) d_MO_next_36 (by decide) ?_
    refine j_iconst F (v := 1) d_MO_next_37 (by decide) ?_
    have e0 : sp_next σ = (1, 0, (σ.1, σ.2.1, none)) := by unfold sp_next; rw [hcur]
    rw [e0]
    refine j_callV F 3 (c_MO_go0 hl S1.1 _ 1) (so_h S1.1) rfl wl_MO_58 wim_MO_go wse_MO_go wi_MO wco_MO_go (by decide +kernel) (by decide) rfl rfl (Nat.le_of_ble_eq_true rfl) (by decide) (by decide) d_MO_next_38 (fun E M1 hx => hx.elim) (fun r M1 hp => ?_)
    obtain ⟨rfl, W1⟩ := hp
    exact j_iret F hr (Nat.le_refl _) (Nat.le_refl _) ⟨rfl, sg_c ⟨ok1, ok2, ok3, ok4, ok5⟩ (fun i hi => by cases hi), tf, kf, lf, mf, pf, sf, mw_tr S1 W1, hT, hbt, hbk, hR⟩ d_MO_next_41
  | some cc0 =>
    rw [hcur] at S1
    have hcl := ok5 cc0 hcur
    refine j_aload_n F d_MO_next_5 rfl rfl ?_
    refine j_aload_n F d_MO_next_6 rfl rfl ?_
    refine j_get F (so_h S1.1) rfl in_MO 9 (by decide) wf_MO_29 rfl d_MO_next_7 ?_
    refine j_iconst F (v := 1) d_MO_next_10 (by decide) ?_
    refine j_iadd F d_MO_next_11 ?_
    refine j_val (y := nI (cc0 + 1)) (nI_1 cc0) ?_
    refine j_aload_n F d_MO_next_12 rfl rfl ?_
    refine j_get F (so_h S1.1) rfl in_MO 9 (by decide) wf_MO_29 rfl d_MO_next_13 ?_
    refine j_if_lt F (tgt := 36) d_MO_next_16 (by decide) (fun hc => absurd hc (nI_pos (by omega))) (fun hc => ?_)
    refine j_aload_n F d_MO_next_19 rfl rfl ?_
    refine j_get F (so_h S1.1) rfl in_MO 9 (by decide) wf_MO_29 rfl d_MO_next_20 ?_
    refine j_iconst F (v := 1) d_MO_next_23 (by decide) ?_
    refine j_iadd F d_MO_next_24 ?_
    refine j_val (y := nI (cc0 + 1)) (nI_1 cc0) ?_
    refine j_aload_n F d_MO_next_25 rfl rfl ?_
    refine j_get F (so_h S1.1) rfl in_MO 8 (by decide) wf_MO_43 rfl d_MO_next_26 ?_
    refine j_icmp_ge F (tgt := 36) d_MO_next_29 (by decide) (fun hc2 => ?_) (fun hc2 => ?_)
    · skip
      have h0 : σ.2.1.length ≤ cc0 + 1 := (nI_leI (by omega) (by omega)).mp hc2
      refine j_iconst F (v := 0) d_MO_next_36 (by decide) ?_
      refine j_iconst F (v := 1) d_MO_next_37 (by decide) ?_
      have e0 : sp_next σ = (1, 0, (σ.1, σ.2.1, none)) := by unfold sp_next; rw [hcur]; exact go_no (Or.inl h0)
      rw [e0]
      refine j_callV F 3 (c_MO_go0 hl S1.1 _ 1) (so_h S1.1) rfl wl_MO_58 wim_MO_go wse_MO_go wi_MO wco_MO_go (by decide +kernel) (by decide) rfl rfl (Nat.le_of_ble_eq_true rfl) (by decide) (by decide) d_MO_next_38 (fun E M1 hx => hx.elim) (fun r M1 hp => ?_)
      obtain ⟨rfl, W1⟩ := hp
      exact j_iret F hr (Nat.le_refl _) (Nat.le_refl _) ⟨rfl, sg_c ⟨ok1, ok2, ok3, ok4, ok5⟩ (fun i hi => by cases hi), tf, kf, lf, mf, pf, sf, mw_tr S1 W1, hT, hbt, hbk, hR⟩ d_MO_next_41
    · skip
      have h0 : cc0 + 1 < σ.2.1.length := Nat.not_le.mp (fun z => hc2 ((nI_leI (by omega) (by omega)).mpr z))
      obtain ⟨e1, he1⟩ : ∃ e1, σ.2.1[cc0 + 1]? = some e1 := ⟨_, List.getElem?_eq_getElem h0⟩
      refine j_iconst F (v := 1) d_MO_next_32 (by decide) ?_
      refine j_goto F (tgt := 37) d_MO_next_33 (by decide) ?_
      refine j_iconst F (v := 1) d_MO_next_37 (by decide) ?_
      have e0 : sp_next σ = (0, e1.2.2.1, (σ.1, σ.2.1, some (cc0 + 1))) := by unfold sp_next; rw [hcur]; exact go_ok he1
      rw [e0]
      refine j_callV F 3 (c_MO_go1 hl S1.1 (v := cc0 + 1) (by omega) 1) (so_h S1.1) rfl wl_MO_58 wim_MO_go wse_MO_go wi_MO wco_MO_go (by decide +kernel) (by decide) rfl rfl (Nat.le_of_ble_eq_true rfl) (by decide) (by decide) d_MO_next_38 (fun E M1 hx => hx.elim) (fun r M1 hp => ?_)
      obtain ⟨rfl, W1⟩ := hp
      exact j_iret F hr (Nat.le_refl _) (Nat.le_refl _) ⟨by rw [((hR.2 (cc0 + 1) e1 he1).1).2.2.2.1], sg_c ⟨ok1, ok2, ok3, ok4, ok5⟩ (fun i hi => by cases hi; omega), tf, kf, lf, mf, pf, sf, mw_tr S1 W1, hT, hbt, hbk, hR⟩ d_MO_next_41
set_option maxHeartbeats 4000000 in
set_option maxRecDepth 100000 in
theorem c_MO_find (hl : l.stackTraces = false) (A : mo_A G M M h ta ke le mo pl si fa σ) (mm : Int32) : ct_C l G y_MO_find b_MO_find 4 (some .int) { frames := 2, cells := 0, slots := 0, locals := 48 } [.ref h, .int mm] M (fun r M1 => r = some (.int (sp_find mm σ).2.1) ∧ mo_A G M M1 h ta ke le mo pl si (nI (sp_find mm σ).1) (sp_find mm σ).2.2) (fun _ _ => False) := by
  refine ct_of hl (by decide +kernel) (Nat.le_of_ble_eq_true rfl) ?_
  intro p e s m args below meth c F hr hnm
  obtain ⟨hok, tf, kf, lf, mf, pf, sf, ⟨S, -⟩, hT, hbt, hbk, hR⟩ := A
  obtain ⟨ok1, ok2, ok3, ok4, ok5⟩ := hok
  refine j_aload_n F d_MO_find_0 rfl rfl ?_
  refine j_iconst F (v := 0) d_MO_find_1 (by decide) ?_
  refine j_put F (so_h S) (sz_h S) rfl in_MO ty_MO ok_MO nm_MO 0 (by decide) wf_MO_33 rfl (ty := .int) (by decide +kernel) rfl rfl (Nat.le_of_ble_eq_true rfl) d_MO_find_2 ?_
  refine j_nmW (P := fun M1 => mo_W G M M1 h ta ke le mo pl si 0 (nI σ.1.length) (nI σ.2.1.length) (cu_I σ.2.2) tf kf lf mf pf sf) (mw_fa (mo_rf S) 0) (fun M1 S1 => ?_)
  refine j_aload_n F d_MO_find_5 rfl rfl ?_
  refine j_get F (so_h S1.1) rfl in_MO 2 (by decide) wf_MO_36 rfl d_MO_find_6 ?_
  refine j_iconst F (v := 1) d_MO_find_9 (by decide) ?_
  refine j_icmp_lt F (tgt := 22) d_MO_find_10 (by decide) (fun hc => ?_) (fun hc => ?_)
  · skip
    have e0 : sp_find mm σ = (1, 0, σ) := if_pos (Or.inl ((nI_ltI (b := 1) (by omega) (by decide)).mp hc))
    rw [e0]
    refine j_aload_n F d_MO_find_22 rfl rfl ?_
    refine j_iconst F (v := 1) d_MO_find_23 (by decide) ?_
    refine j_callV F 1 (c_MO_fail hl S1.1 1) (so_h S1.1) rfl wl_MO_39 wim_MO_fail wse_MO_fail wi_MO wco_MO_fail (by decide +kernel) (by decide) rfl rfl (Nat.le_of_ble_eq_true rfl) (by decide) (by decide) d_MO_find_24 (fun E M1 hx => hx.elim) (fun r M1 hp => ?_)
    obtain ⟨rfl, W1⟩ := hp
    exact j_iret F hr (Nat.le_refl _) (Nat.le_refl _) ⟨rfl, ⟨ok1, ok2, ok3, ok4, ok5⟩, tf, kf, lf, mf, pf, sf, mw_tr S1 W1, hT, hbt, hbk, hR⟩ d_MO_find_27
  · skip
    refine j_aload_n F d_MO_find_13 rfl rfl ?_
    refine j_get F (so_h S1.1) rfl in_MO 2 (by decide) wf_MO_36 rfl d_MO_find_14 ?_
    refine j_bipush F (v := 40) d_MO_find_17 (by decide) ?_
    refine j_icmp_le F (tgt := 28) d_MO_find_19 (by decide) (fun hc2 => ?_) (fun hc2 => ?_)
    · skip
      have hk1 : 1 ≤ σ.1.length := Nat.not_lt.mp (fun z => hc ((nI_ltI (b := 1) (by omega) (by decide)).mpr z))
      have hk2 : σ.1.length ≤ 40 := (nI_leI (b := 40) (by omega) (by decide)).mp hc2
      have hs : sp_find mm σ = go_to σ.2.1 [] 2 (fi σ.2.1 σ.1 mm) (of_key σ.2.1 σ.1 (fi σ.2.1 σ.1 mm)) := if_neg (by omega)
      have hfl := fi_le σ.2.1 σ.1 mm
      refine j_aload_n F d_MO_find_28 rfl rfl ?_
      refine j_get F (so_h S1.1) rfl in_MO 2 (by decide) wf_MO_36 rfl d_MO_find_29 ?_
      refine j_istore_n F (lv1 := [(2, _), (0, _), (1, _)]) d_MO_find_32 rfl (by decide) rfl ?_
      refine j_aload_n F d_MO_find_33 rfl rfl ?_
      refine j_iconst F (v := 0) d_MO_find_34 (by decide) ?_
      refine j_put F (so_h S1.1) (sz_h S1.1) rfl in_MO ty_MO ok_MO nm_MO 2 (by decide) wf_MO_36 rfl (ty := .int) (by decide +kernel) rfl rfl (Nat.le_of_ble_eq_true rfl) d_MO_find_35 ?_
      refine j_nmW (P := fun M1 => mo_W G M M1 h ta ke le mo pl si 0 0 (nI σ.2.1.length) (cu_I σ.2.2) tf kf lf mf pf sf) (mw_tl S1 0) (fun M2 S2 => ?_)
      refine j_aload_n F d_MO_find_38 rfl rfl ?_
      refine j_iload_n F d_MO_find_39 rfl rfl ?_
      refine j_iload_n F d_MO_find_40 rfl rfl ?_
      refine j_callV F 2 (c_MO_before hl S2.1 hR hT (by omega) (mm := mm)) (so_h S2.1) rfl wl_MO_50 wim_MO_before wse_MO_before wi_MO wco_MO_before (by decide +kernel) (by decide) rfl rfl (Nat.le_of_ble_eq_true rfl) (by decide) (by decide) d_MO_find_41 (fun E M1 hx => hx.elim) (fun r M1 hp => ?_)
      obtain ⟨rfl, rfl⟩ := hp
      refine j_istore_n F (lv1 := [(3, _), (2, _), (0, _), (1, _)]) d_MO_find_44 rfl (by decide) rfl ?_
      refine j_aload_n F d_MO_find_45 rfl rfl ?_
      refine j_iload_n F d_MO_find_46 rfl rfl ?_
      refine j_iload_n F d_MO_find_47 rfl rfl ?_
      refine j_aload_n F d_MO_find_48 rfl rfl ?_
      refine j_get F (so_h S2.1) rfl in_MO 8 (by decide) wf_MO_43 rfl d_MO_find_49 ?_
      refine j_icmp_ge F (tgt := 74) d_MO_find_52 (by decide) (fun hc3 => ?_) (fun hc3 => ?_)
      · skip
        have h0 : σ.2.1.length ≤ fi σ.2.1 σ.1 mm := (nI_leI (by omega) (by omega)).mp hc3
        refine j_iconst F (v := 0) d_MO_find_74 (by decide) ?_
        refine j_iconst F (v := 2) d_MO_find_75 (by decide) ?_
        have e0 : sp_find mm σ = (2, 0, ([], σ.2.1, none)) := hs.trans (go_no (Or.inl h0))
        rw [e0]
        refine j_callV F 3 (c_MO_go0 hl S2.1 _ 2) (so_h S2.1) rfl wl_MO_58 wim_MO_go wse_MO_go wi_MO wco_MO_go (by decide +kernel) (by decide) rfl rfl (Nat.le_of_ble_eq_true rfl) (by decide) (by decide) d_MO_find_76 (fun E M1 hx => hx.elim) (fun r M1 hp => ?_)
        obtain ⟨rfl, W1⟩ := hp
        exact j_iret F hr (Nat.le_refl _) (Nat.le_refl _) ⟨rfl, sg_k ⟨ok1, ok2, ok3, ok4, ok5⟩ (fun i hi => by cases hi), tf, kf, lf, mf, pf, sf, mw_tr S2 W1, (tp_nil _), hbt, hbk, hR⟩ d_MO_find_79
      · skip
        have h0 : fi σ.2.1 σ.1 mm < σ.2.1.length := Nat.not_le.mp (fun z => hc3 ((nI_leI (by omega) (by omega)).mpr z))
        obtain ⟨e1, he1⟩ : ∃ e1, σ.2.1[fi σ.2.1 σ.1 mm]? = some e1 := ⟨_, List.getElem?_eq_getElem h0⟩
        obtain ⟨hE, -, h40⟩ := hR.2 _ e1 he1
        refine j_aload_n F d_MO_find_55 rfl rfl ?_
        refine j_iload_n F d_MO_find_56 rfl rfl ?_
        refine j_iload_n F d_MO_find_57 rfl rfl ?_
        refine j_aload_n F d_MO_find_58 rfl rfl ?_
        refine j_get F (so_h S2.1) rfl in_MO 5 (by decide) wf_MO_20 rfl d_MO_find_59 ?_
        refine j_iload_n F d_MO_find_62 rfl rfl ?_
        refine j_ialdN F (so_mo S2.1) (by omega) (by decide) d_MO_find_63 ?_
        refine j_val (y := e1.2.1) (hE.2.2.1) ?_
        refine j_callV F 3 (c_MO_compare hl S2.1 (by omega) hE hT h40 (by omega) (mm := e1.2.1)) (so_h S2.1) rfl wl_MO_46 wim_MO_compare wse_MO_compare wi_MO wco_MO_compare (by decide +kernel) (by decide) rfl rfl (Nat.le_of_ble_eq_true rfl) (by decide) (by decide) d_MO_find_64 (fun E M1 hx => hx.elim) (fun r M1 hp => ?_)
        obtain ⟨rfl, d, rfl, -, hd2⟩ := hp
        have hoc : oc e1 σ.1 e1.2.1 = 0 ↔ kc e1.1 σ.1 = 0 := by
          constructor
          · intro z
            by_cases hk : kc e1.1 σ.1 = 0
            · exact hk
            · rw [oc_k hk] at z; exact z
          · intro z
            rw [oc_m z, if_neg Int32.lt_irrefl, if_neg Int32.lt_irrefl]
        refine j_if_ne F (tgt := 74) d_MO_find_67 (by decide) (fun hc4 => ?_) (fun hc4 => ?_)
        · skip
          have hof : of_key σ.2.1 σ.1 (fi σ.2.1 σ.1 mm) = false := by unfold of_key; rw [he1]; simp; exact fun z => hc4 (hd2.mpr (hoc.mpr z))
          refine j_iconst F (v := 0) d_MO_find_74 (by decide) ?_
          refine j_iconst F (v := 2) d_MO_find_75 (by decide) ?_
          have e0 : sp_find mm σ = (2, 0, ([], σ.2.1, none)) := hs.trans (go_no (Or.inr hof))
          rw [e0]
          refine j_callV F 3 (c_MO_go0 hl S2.1 _ 2) (so_h S2.1) rfl wl_MO_58 wim_MO_go wse_MO_go wi_MO wco_MO_go (by decide +kernel) (by decide) rfl rfl (Nat.le_of_ble_eq_true rfl) (by decide) (by decide) d_MO_find_76 (fun E M1 hx => hx.elim) (fun r M1 hp => ?_)
          obtain ⟨rfl, W1⟩ := hp
          exact j_iret F hr (Nat.le_refl _) (Nat.le_refl _) ⟨rfl, sg_k ⟨ok1, ok2, ok3, ok4, ok5⟩ (fun i hi => by cases hi), tf, kf, lf, mf, pf, sf, mw_tr S2 W1, (tp_nil _), hbt, hbk, hR⟩ d_MO_find_79
        · skip
          have hof : of_key σ.2.1 σ.1 (fi σ.2.1 σ.1 mm) = true := by unfold of_key; rw [he1]; simp; exact hoc.mp (hd2.mp hc4)
          refine j_iconst F (v := 1) d_MO_find_70 (by decide) ?_
          refine j_goto F (tgt := 75) d_MO_find_71 (by decide) ?_
          refine j_iconst F (v := 2) d_MO_find_75 (by decide) ?_
          have e0 : sp_find mm σ = (0, e1.2.2.1, ([], σ.2.1, some (fi σ.2.1 σ.1 mm))) := by rw [hs, hof]; exact go_ok he1
          rw [e0]
          refine j_callV F 3 (c_MO_go1 hl S2.1 (v := fi σ.2.1 σ.1 mm) (by omega) 2) (so_h S2.1) rfl wl_MO_58 wim_MO_go wse_MO_go wi_MO wco_MO_go (by decide +kernel) (by decide) rfl rfl (Nat.le_of_ble_eq_true rfl) (by decide) (by decide) d_MO_find_76 (fun E M1 hx => hx.elim) (fun r M1 hp => ?_)
          obtain ⟨rfl, W1⟩ := hp
          exact j_iret F hr (Nat.le_refl _) (Nat.le_refl _) ⟨by rw [(hE).2.2.2.1], sg_k ⟨ok1, ok2, ok3, ok4, ok5⟩ (fun i hi => by cases hi; omega), tf, kf, lf, mf, pf, sf, mw_tr S2 W1, (tp_nil _), hbt, hbk, hR⟩ d_MO_find_79
    · skip
      have e0 : sp_find mm σ = (1, 0, σ) := if_pos (Or.inr (Nat.not_le.mp (fun z => hc2 ((nI_leI (b := 40) (by omega) (by decide)).mpr z))))
      rw [e0]
      refine j_aload_n F d_MO_find_22 rfl rfl ?_
      refine j_iconst F (v := 1) d_MO_find_23 (by decide) ?_
      refine j_callV F 1 (c_MO_fail hl S1.1 1) (so_h S1.1) rfl wl_MO_39 wim_MO_fail wse_MO_fail wi_MO wco_MO_fail (by decide +kernel) (by decide) rfl rfl (Nat.le_of_ble_eq_true rfl) (by decide) (by decide) d_MO_find_24 (fun E M1 hx => hx.elim) (fun r M1 hp => ?_)
      obtain ⟨rfl, W1⟩ := hp
      exact j_iret F hr (Nat.le_refl _) (Nat.le_refl _) ⟨rfl, ⟨ok1, ok2, ok3, ok4, ok5⟩, tf, kf, lf, mf, pf, sf, mw_tr S1 W1, hT, hbt, hbk, hR⟩ d_MO_find_27
set_option maxHeartbeats 4000000 in
set_option maxRecDepth 100000 in
theorem c_MO_seek (hl : l.stackTraces = false) (A : mo_A G M M h ta ke le mo pl si fa σ) (mm : Int32) (bb : Bool) : ct_C l G y_MO_seek b_MO_seek 5 (some .int) { frames := 2, cells := 0, slots := 0, locals := 48 } [.ref h, .int mm, .int (if bb then 1 else 0)] M (fun r M1 => r = some (.int (sp_seek mm bb σ).2.1) ∧ mo_A G M M1 h ta ke le mo pl si (nI (sp_seek mm bb σ).1) (sp_seek mm bb σ).2.2) (fun _ _ => False) := by
  refine ct_of hl (by decide +kernel) (Nat.le_of_ble_eq_true rfl) ?_
  intro p e s m args below meth c F hr hnm
  obtain ⟨hok, tf, kf, lf, mf, pf, sf, ⟨S, -⟩, hT, hbt, hbk, hR⟩ := A
  obtain ⟨ok1, ok2, ok3, ok4, ok5⟩ := hok
  refine j_aload_n F d_MO_seek_0 rfl rfl ?_
  refine j_iconst F (v := 0) d_MO_seek_1 (by decide) ?_
  refine j_put F (so_h S) (sz_h S) rfl in_MO ty_MO ok_MO nm_MO 0 (by decide) wf_MO_33 rfl (ty := .int) (by decide +kernel) rfl rfl (Nat.le_of_ble_eq_true rfl) d_MO_seek_2 ?_
  refine j_nmW (P := fun M1 => mo_W G M M1 h ta ke le mo pl si 0 (nI σ.1.length) (nI σ.2.1.length) (cu_I σ.2.2) tf kf lf mf pf sf) (mw_fa (mo_rf S) 0) (fun M1 S1 => ?_)
  refine j_aload_n F d_MO_seek_5 rfl rfl ?_
  refine j_get F (so_h S1.1) rfl in_MO 2 (by decide) wf_MO_36 rfl d_MO_seek_6 ?_
  refine j_bipush F (v := 40) d_MO_seek_9 (by decide) ?_
  refine j_icmp_le F (tgt := 20) d_MO_seek_11 (by decide) (fun hc => ?_) (fun hc => ?_)
  · skip
    have hk2 : σ.1.length ≤ 40 := (nI_leI (b := 40) (by omega) (by decide)).mp hc
    have hs : sp_seek mm bb σ = go_to σ.2.1 [] 2 (sk_v σ.2.1 σ.1 mm bb) true := if_neg (by omega)
    have hfl := fi_le σ.2.1 σ.1 mm
    refine j_aload_n F d_MO_seek_20 rfl rfl ?_
    refine j_get F (so_h S1.1) rfl in_MO 2 (by decide) wf_MO_36 rfl d_MO_seek_21 ?_
    refine j_istore_n F (lv1 := [(3, _), (0, _), (1, _), (2, _)]) d_MO_seek_24 rfl (by decide) rfl ?_
    refine j_aload_n F d_MO_seek_25 rfl rfl ?_
    refine j_iconst F (v := 0) d_MO_seek_26 (by decide) ?_
    refine j_put F (so_h S1.1) (sz_h S1.1) rfl in_MO ty_MO ok_MO nm_MO 2 (by decide) wf_MO_36 rfl (ty := .int) (by decide +kernel) rfl rfl (Nat.le_of_ble_eq_true rfl) d_MO_seek_27 ?_
    refine j_nmW (P := fun M1 => mo_W G M M1 h ta ke le mo pl si 0 0 (nI σ.2.1.length) (cu_I σ.2.2) tf kf lf mf pf sf) (mw_tl S1 0) (fun M2 S2 => ?_)
    refine j_aload_n F d_MO_seek_30 rfl rfl ?_
    refine j_iload_n F d_MO_seek_31 rfl rfl ?_
    refine j_iload_n F d_MO_seek_32 rfl rfl ?_
    refine j_callV F 2 (c_MO_before hl S2.1 hR hT (by omega) (mm := mm)) (so_h S2.1) rfl wl_MO_50 wim_MO_before wse_MO_before wi_MO wco_MO_before (by decide +kernel) (by decide) rfl rfl (Nat.le_of_ble_eq_true rfl) (by decide) (by decide) d_MO_seek_33 (fun E M1 hx => hx.elim) (fun r M1 hp => ?_)
    obtain ⟨rfl, rfl⟩ := hp
    refine j_istore F (lv1 := [(4, _), (3, _), (0, _), (1, _), (2, _)]) d_MO_seek_36 (by decide) rfl ?_
    refine j_cut (α := Unit) (fun _ => True) (fun _ => M2) (fun _ => 0) (fun _ => 0) (fun _ => [(4, .int (nI (sk_v σ.2.1 σ.1 mm bb))), (3, .int (nI σ.1.length)), (0, .ref h), (1, .int mm), (2, .int (if bb then 1 else 0))]) 65 (fun _ => []) ?_ (fun at65 => ?_)
    · skip
      intro _ _
      have hvl : sk_v σ.2.1 σ.1 mm bb ≤ σ.2.1.length := by
        unfold sk_v
        split
        · rename_i z
          simp only [Bool.and_eq_true] at z
          exact hit_le z.2
        · exact hfl
      refine j_aload_n F d_MO_seek_65 rfl rfl ?_
      refine j_iload F d_MO_seek_66 rfl ?_
      refine j_iload F d_MO_seek_68 rfl ?_
      refine j_aload_n F d_MO_seek_70 rfl rfl ?_
      refine j_get F (so_h S2.1) rfl in_MO 8 (by decide) wf_MO_43 rfl d_MO_seek_71 ?_
      refine j_icmp_ge F (tgt := 81) d_MO_seek_74 (by decide) (fun hc3 => ?_) (fun hc3 => ?_)
      · skip
        have h0 : σ.2.1.length ≤ sk_v σ.2.1 σ.1 mm bb := (nI_leI (by omega) (by omega)).mp hc3
        refine j_iconst F (v := 0) d_MO_seek_81 (by decide) ?_
        refine j_iconst F (v := 2) d_MO_seek_82 (by decide) ?_
        have e0 : sp_seek mm bb σ = (2, 0, ([], σ.2.1, none)) := hs.trans (go_no (Or.inl h0))
        rw [e0]
        refine j_callV F 3 (c_MO_go0 hl S2.1 _ 2) (so_h S2.1) rfl wl_MO_58 wim_MO_go wse_MO_go wi_MO wco_MO_go (by decide +kernel) (by decide) rfl rfl (Nat.le_of_ble_eq_true rfl) (by decide) (by decide) d_MO_seek_83 (fun E M1 hx => hx.elim) (fun r M1 hp => ?_)
        obtain ⟨rfl, W1⟩ := hp
        exact j_iret F hr (Nat.le_refl _) (Nat.le_refl _) ⟨rfl, sg_k ⟨ok1, ok2, ok3, ok4, ok5⟩ (fun i hi => by cases hi), tf, kf, lf, mf, pf, sf, mw_tr S2 W1, (tp_nil _), hbt, hbk, hR⟩ d_MO_seek_86
      · skip
        have h0 : sk_v σ.2.1 σ.1 mm bb < σ.2.1.length := Nat.not_le.mp (fun z => hc3 ((nI_leI (by omega) (by omega)).mpr z))
        obtain ⟨e1, he1⟩ : ∃ e1, σ.2.1[sk_v σ.2.1 σ.1 mm bb]? = some e1 := ⟨_, List.getElem?_eq_getElem h0⟩
        refine j_iconst F (v := 1) d_MO_seek_77 (by decide) ?_
        refine j_goto F (tgt := 82) d_MO_seek_78 (by decide) ?_
        refine j_iconst F (v := 2) d_MO_seek_82 (by decide) ?_
        have e0 : sp_seek mm bb σ = (0, e1.2.2.1, ([], σ.2.1, some (sk_v σ.2.1 σ.1 mm bb))) := hs.trans (go_ok he1)
        rw [e0]
        refine j_callV F 3 (c_MO_go1 hl S2.1 (v := sk_v σ.2.1 σ.1 mm bb) (by omega) 2) (so_h S2.1) rfl wl_MO_58 wim_MO_go wse_MO_go wi_MO wco_MO_go (by decide +kernel) (by decide) rfl rfl (Nat.le_of_ble_eq_true rfl) (by decide) (by decide) d_MO_seek_83 (fun E M1 hx => hx.elim) (fun r M1 hp => ?_)
        obtain ⟨rfl, W1⟩ := hp
        exact j_iret F hr (Nat.le_refl _) (Nat.le_refl _) ⟨by rw [((hR.2 _ e1 he1).1).2.2.2.1], sg_k ⟨ok1, ok2, ok3, ok4, ok5⟩ (fun i hi => by cases hi; omega), tf, kf, lf, mf, pf, sf, mw_tr S2 W1, (tp_nil _), hbt, hbk, hR⟩ d_MO_seek_86
    refine j_iload_n F d_MO_seek_38 rfl rfl ?_
    refine j_if_eq F (tgt := 65) d_MO_seek_39 (by decide) (fun hc4 => ?_) (fun hc4 => ?_)
    · skip
      have hbb : bb = false := by cases bb with
        | false => rfl
        | true => exact absurd hc4 (by decide)
      have hv : sk_v σ.2.1 σ.1 mm bb = fi σ.2.1 σ.1 mm := by unfold sk_v; rw [hbb]; rfl
      have := at65 () trivial
      rw [hv] at this
      exact this
    · skip
      have hbb : bb = true := by cases bb with
        | true => rfl
        | false => exact absurd rfl hc4
      refine j_iload F d_MO_seek_42 rfl ?_
      refine j_aload_n F d_MO_seek_44 rfl rfl ?_
      refine j_get F (so_h S2.1) rfl in_MO 8 (by decide) wf_MO_43 rfl d_MO_seek_45 ?_
      refine j_icmp_ge F (tgt := 65) d_MO_seek_48 (by decide) (fun hc5 => ?_) (fun hc5 => ?_)
      · skip
        have h0 : σ.2.1.length ≤ fi σ.2.1 σ.1 mm := (nI_leI (by omega) (by omega)).mp hc5
        have hv : sk_v σ.2.1 σ.1 mm bb = fi σ.2.1 σ.1 mm := by unfold sk_v; rw [hit_no h0, Bool.and_false]; rfl
        have := at65 () trivial
        rw [hv] at this
        exact this
      · skip
        have h0 : fi σ.2.1 σ.1 mm < σ.2.1.length := Nat.not_le.mp (fun z => hc5 ((nI_leI (by omega) (by omega)).mpr z))
        obtain ⟨e1, he1⟩ : ∃ e1, σ.2.1[fi σ.2.1 σ.1 mm]? = some e1 := ⟨_, List.getElem?_eq_getElem h0⟩
        obtain ⟨hE, -, h40⟩ := hR.2 _ e1 he1
        refine j_aload_n F d_MO_seek_51 rfl rfl ?_
        refine j_iload F d_MO_seek_52 rfl ?_
        refine j_iload_n F d_MO_seek_54 rfl rfl ?_
        refine j_iload_n F d_MO_seek_55 rfl rfl ?_
        refine j_callV F 3 (c_MO_compare hl S2.1 (by omega) hE hT h40 (by omega) (mm := mm)) (so_h S2.1) rfl wl_MO_46 wim_MO_compare wse_MO_compare wi_MO wco_MO_compare (by decide +kernel) (by decide) rfl rfl (Nat.le_of_ble_eq_true rfl) (by decide) (by decide) d_MO_seek_56 (fun E M1 hx => hx.elim) (fun r M1 hp => ?_)
        obtain ⟨rfl, d, rfl, -, hd2⟩ := hp
        refine j_if_ne F (tgt := 65) d_MO_seek_59 (by decide) (fun hc6 => ?_) (fun hc6 => ?_)
        · skip
          have hno : ¬ hit σ.2.1 σ.1 mm = true := fun z => hc6 (hd2.mpr ((hit_of he1).mp z))
          have hv : sk_v σ.2.1 σ.1 mm bb = fi σ.2.1 σ.1 mm := by unfold sk_v; rw [hbb, Bool.true_and, if_neg hno]
          have := at65 () trivial
          rw [hv] at this
          exact this
        · skip
          have hyes : hit σ.2.1 σ.1 mm = true := (hit_of he1).mpr (hd2.mp hc6)
          have hv : sk_v σ.2.1 σ.1 mm bb = fi σ.2.1 σ.1 mm + 1 := by unfold sk_v; rw [hbb, Bool.true_and, if_pos hyes]
          refine j_iinc F (lv1 := [(4, _), (3, _), (0, _), (1, _), (2, _)]) d_MO_seek_62 rfl (nI_1 _) (by decide) rfl ?_
          have := at65 () trivial
          rw [hv] at this
          exact this
  · skip
    have e0 : sp_seek mm bb σ = (1, 0, σ) := if_pos (Nat.not_le.mp (fun z => hc ((nI_leI (b := 40) (by omega) (by decide)).mpr z)))
    rw [e0]
    refine j_aload_n F d_MO_seek_14 rfl rfl ?_
    refine j_iconst F (v := 1) d_MO_seek_15 (by decide) ?_
    refine j_callV F 1 (c_MO_fail hl S1.1 1) (so_h S1.1) rfl wl_MO_39 wim_MO_fail wse_MO_fail wi_MO wco_MO_fail (by decide +kernel) (by decide) rfl rfl (Nat.le_of_ble_eq_true rfl) (by decide) (by decide) d_MO_seek_16 (fun E M1 hx => hx.elim) (fun r M1 hp => ?_)
    obtain ⟨rfl, W1⟩ := hp
    exact j_iret F hr (Nat.le_refl _) (Nat.le_refl _) ⟨rfl, ⟨ok1, ok2, ok3, ok4, ok5⟩, tf, kf, lf, mf, pf, sf, mw_tr S1 W1, hT, hbt, hbk, hR⟩ d_MO_seek_19
end MO4
end
section
theorem cu_some {σ : sg_T} {c : Nat} (h : σ.2.2 = some c) : cu_E σ = σ.2.1[c]? := by unfold cu_E; rw [h]
theorem cu_none {σ : sg_T} (h : σ.2.2 = none) : cu_E σ = none := by unfold cu_E; rw [h]
theorem tp_app {k : ke_T} {tf : Nat → Int32} (x : Int32) (h : tp_R k tf) : tp_R (k ++ [x]) (upd tf k.length x) := by
  intro j hj
  rw [List.length_append] at hj
  simp only [List.length_cons, List.length_nil] at hj
  by_cases hjk : j = k.length
  · subst hjk
    rw [pk_us]
    simp [List.getD_eq_getElem?_getD]
  · rw [pk_un hjk, h j (by omega)]
    simp only [List.getD_eq_getElem?_getD]
    rw [List.getElem?_append_left (by omega)]
theorem ta_succ (k l : ke_T) {j : Nat} (hj : j < l.length) : k ++ l.take (j + 1) = (k ++ l.take j) ++ [l.getD j 0] := by
  rw [List.take_add_one, List.append_assoc, List.getD_eq_getElem?_getD, List.getElem?_eq_getElem hj]
  rfl
theorem ta_len (k l : ke_T) {j : Nat} (hj : j ≤ l.length) : (k ++ l.take j).length = k.length + j := by
  rw [List.length_append, List.length_take]
  omega
theorem sh_8 {j : Nat} : (24 : Int32) - 8 * nI (j % 4) = nI (24 - 8 * (j % 4)) := by
  have h : j % 4 < 4 := Nat.mod_lt _ (by decide)
  rw [show (24 : Int32) = nI 24 from rfl, show (8 : Int32) = nI 8 from rfl, pk_mul, pk_sub (by omega)]
theorem re_4 {j : Nat} (hj : j < 20) : nI j - nI j / 4 * 4 = nI (j % 4) := pk_rem (d := 4) (by omega) (by decide) (by decide)
section MO5
variable {es : List en_T} {σ : sg_T} {l : Launch} {G : gv_T} {M M0 : mp_T} {h ta ke le mo pl si : Nat} {fa tl sz ap : Int32} {tf kf lf mf pf sf : Nat → Int32}
set_option maxHeartbeats 4000000 in
set_option maxRecDepth 100000 in
theorem c_MO_current (hl : l.stackTraces = false) (A : mo_A G M M h ta ke le mo pl si fa σ) (w : Int32) : ct_C l G y_MO_current b_MO_current 2 (some .int) { frames := 1, cells := 0, slots := 0, locals := 21 } [.ref h, .int w] M (fun r M1 => r = some (.int (sp_current w σ).2.1) ∧ mo_A G M M1 h ta ke le mo pl si (nI (sp_current w σ).1) (sp_current w σ).2.2) (fun _ _ => False) := by
  refine ct_of hl (by decide +kernel) (Nat.le_of_ble_eq_true rfl) ?_
  intro p e s m args below meth c F hr hnm
  obtain ⟨hok, tf, kf, lf, mf, pf, sf, ⟨S, -⟩, hT, hbt, hbk, hR⟩ := A
  obtain ⟨ok1, ok2, ok3, ok4, ok5⟩ := hok
  refine j_aload_n F d_MO_current_0 rfl rfl ?_
  refine j_iconst F (v := 0) d_MO_current_1 (by decide) ?_
  refine j_put F (so_h S) (sz_h S) rfl in_MO ty_MO ok_MO nm_MO 0 (by decide) wf_MO_33 rfl (ty := .int) (by decide +kernel) rfl rfl (Nat.le_of_ble_eq_true rfl) d_MO_current_2 ?_
  refine j_nmW (P := fun M1 => mo_W G M M1 h ta ke le mo pl si 0 (nI σ.1.length) (nI σ.2.1.length) (cu_I σ.2.2) tf kf lf mf pf sf) (mw_fa (mo_rf S) 0) (fun M1 S1 => ?_)
  refine j_iload_n F d_MO_current_5 rfl rfl ?_
  refine j_if_lt F (tgt := 14) d_MO_current_6 (by decide) (fun hc => ?_) (fun hc => ?_)
  · skip
    have e0 : sp_current w σ = (1, 0, σ) := if_pos (Or.inl hc)
    rw [e0]
    refine j_aload_n F d_MO_current_14 rfl rfl ?_
    refine j_iconst F (v := 1) d_MO_current_15 (by decide) ?_
    refine j_callV F 1 (c_MO_fail hl S1.1 1) (so_h S1.1) rfl wl_MO_39 wim_MO_fail wse_MO_fail wi_MO wco_MO_fail (by decide +kernel) (by decide) rfl rfl (Nat.le_of_ble_eq_true rfl) (by decide) (by decide) d_MO_current_16 (fun E M1 hx => hx.elim) (fun r M1 hp => ?_)
    obtain ⟨rfl, W1⟩ := hp
    exact j_iret F hr (Nat.le_refl _) (Nat.le_refl _) ⟨rfl, ⟨ok1, ok2, ok3, ok4, ok5⟩, tf, kf, lf, mf, pf, sf, mw_tr S1 W1, hT, hbt, hbk, hR⟩ d_MO_current_19
  · skip
    refine j_iload_n F d_MO_current_9 rfl rfl ?_
    refine j_iconst F (v := 3) d_MO_current_10 (by decide) ?_
    refine j_icmp_le F (tgt := 20) d_MO_current_11 (by decide) (fun hc2 => ?_) (fun hc2 => ?_)
    · skip
      have hs : sp_current w σ = match cu_E σ with
        | none => (2, 0, σ)
        | some e => (0, if w = 0 then e.2.1 else if w = 1 then e.2.2.1 else if w = 2 then e.2.2.2 else nI e.1.length, σ) := if_neg (fun z => z.elim hc (fun z => absurd hc2 (Int32.not_le.mpr z)))
      cases hcur : σ.2.2 with
      | none =>
        rw [hcur] at S1
        refine j_aload_n F d_MO_current_20 rfl rfl ?_
        refine j_get F (so_h S1.1) rfl in_MO 9 (by decide) wf_MO_29 rfl d_MO_current_21 ?_
        refine j_if_ge F (tgt := 33) d_MO_current_24 (by decide) (fun hc => absurd hc (by decide)) (fun hc => ?_)
        have e0 : sp_current w σ = (2, 0, σ) := by rw [hs, cu_none hcur]
        rw [e0]
        refine j_aload_n F d_MO_current_27 rfl rfl ?_
        refine j_iconst F (v := 2) d_MO_current_28 (by decide) ?_
        refine j_callV F 1 (c_MO_fail hl S1.1 2) (so_h S1.1) rfl wl_MO_39 wim_MO_fail wse_MO_fail wi_MO wco_MO_fail (by decide +kernel) (by decide) rfl rfl (Nat.le_of_ble_eq_true rfl) (by decide) (by decide) d_MO_current_29 (fun E M1 hx => hx.elim) (fun r M1 hp => ?_)
        obtain ⟨rfl, W1⟩ := hp
        exact j_iret F hr (Nat.le_refl _) (Nat.le_refl _) ⟨rfl, ⟨ok1, ok2, ok3, ok4, ok5⟩, tf, kf, lf, mf, pf, sf, by dsimp only; rw [hcur]; exact mw_tr S1 W1, hT, hbt, hbk, hR⟩ d_MO_current_32
      | some cc0 =>
        rw [hcur] at S1
        have hcl := ok5 cc0 hcur
        obtain ⟨e1, he1⟩ : ∃ e1, σ.2.1[cc0]? = some e1 := ⟨_, List.getElem?_eq_getElem hcl⟩
        obtain ⟨hE, -, h40⟩ := hR.2 _ e1 he1
        have hs2 : sp_current w σ = (0, if w = 0 then e1.2.1 else if w = 1 then e1.2.2.1 else if w = 2 then e1.2.2.2 else nI e1.1.length, σ) := by rw [hs, cu_some hcur, he1]
        rw [hs2]
        refine j_aload_n F d_MO_current_20 rfl rfl ?_
        refine j_get F (so_h S1.1) rfl in_MO 9 (by decide) wf_MO_29 rfl d_MO_current_21 ?_
        refine j_if_ge F (tgt := 33) d_MO_current_24 (by decide) (fun hc => ?_) (fun hc => absurd (nI_pos' (by omega)) hc)
        refine j_iload_n F d_MO_current_33 rfl rfl ?_
        refine j_if_ne F (tgt := 49) d_MO_current_34 (by decide) (fun hw0 => ?_) (fun hw0 => ?_)
        · skip
          refine j_iload_n F d_MO_current_49 rfl rfl ?_
          refine j_iconst F (v := 1) d_MO_current_50 (by decide) ?_
          refine j_icmp_ne F (tgt := 66) d_MO_current_51 (by decide) (fun hw1 => ?_) (fun hw1 => ?_)
          · skip
            refine j_iload_n F d_MO_current_66 rfl rfl ?_
            refine j_iconst F (v := 2) d_MO_current_67 (by decide) ?_
            refine j_icmp_ne F (tgt := 83) d_MO_current_68 (by decide) (fun hw2 => ?_) (fun hw2 => ?_)
            · skip
              refine j_aload_n F d_MO_current_83 rfl rfl ?_
              refine j_get F (so_h S1.1) rfl in_MO 4 (by decide) wf_MO_16 rfl d_MO_current_84 ?_
              refine j_aload_n F d_MO_current_87 rfl rfl ?_
              refine j_get F (so_h S1.1) rfl in_MO 9 (by decide) wf_MO_29 rfl d_MO_current_88 ?_
              refine j_ialdN F (so_le S1.1) (by omega) (by decide) d_MO_current_91 ?_
              exact j_iret F hr (Nat.le_refl _) (Nat.le_refl _) ⟨by dsimp only; rw [if_neg hw0, if_neg hw1, if_neg hw2, hE.1], ⟨ok1, ok2, ok3, ok4, ok5⟩, tf, kf, lf, mf, pf, sf, by dsimp only; rw [hcur]; exact S1, hT, hbt, hbk, hR⟩ d_MO_current_92
            · skip
              refine j_aload_n F d_MO_current_71 rfl rfl ?_
              refine j_get F (so_h S1.1) rfl in_MO 7 (by decide) wf_MO_26 rfl d_MO_current_72 ?_
              refine j_aload_n F d_MO_current_75 rfl rfl ?_
              refine j_get F (so_h S1.1) rfl in_MO 9 (by decide) wf_MO_29 rfl d_MO_current_76 ?_
              refine j_ialdN F (so_si S1.1) (by omega) (by decide) d_MO_current_79 ?_
              refine j_goto F (tgt := 92) d_MO_current_80 (by decide) ?_
              exact j_iret F hr (Nat.le_refl _) (Nat.le_refl _) ⟨by dsimp only; rw [if_neg hw0, if_neg hw1, if_pos hw2, hE.2.2.2.2], ⟨ok1, ok2, ok3, ok4, ok5⟩, tf, kf, lf, mf, pf, sf, by dsimp only; rw [hcur]; exact S1, hT, hbt, hbk, hR⟩ d_MO_current_92
          · skip
            refine j_aload_n F d_MO_current_54 rfl rfl ?_
            refine j_get F (so_h S1.1) rfl in_MO 6 (by decide) wf_MO_23 rfl d_MO_current_55 ?_
            refine j_aload_n F d_MO_current_58 rfl rfl ?_
            refine j_get F (so_h S1.1) rfl in_MO 9 (by decide) wf_MO_29 rfl d_MO_current_59 ?_
            refine j_ialdN F (so_pl S1.1) (by omega) (by decide) d_MO_current_62 ?_
            refine j_goto F (tgt := 92) d_MO_current_63 (by decide) ?_
            exact j_iret F hr (Nat.le_refl _) (Nat.le_refl _) ⟨by dsimp only; rw [if_neg hw0, if_pos hw1, hE.2.2.2.1], ⟨ok1, ok2, ok3, ok4, ok5⟩, tf, kf, lf, mf, pf, sf, by dsimp only; rw [hcur]; exact S1, hT, hbt, hbk, hR⟩ d_MO_current_92
        · skip
          refine j_aload_n F d_MO_current_37 rfl rfl ?_
          refine j_get F (so_h S1.1) rfl in_MO 5 (by decide) wf_MO_20 rfl d_MO_current_38 ?_
          refine j_aload_n F d_MO_current_41 rfl rfl ?_
          refine j_get F (so_h S1.1) rfl in_MO 9 (by decide) wf_MO_29 rfl d_MO_current_42 ?_
          refine j_ialdN F (so_mo S1.1) (by omega) (by decide) d_MO_current_45 ?_
          refine j_goto F (tgt := 92) d_MO_current_46 (by decide) ?_
          exact j_iret F hr (Nat.le_refl _) (Nat.le_refl _) ⟨by dsimp only; rw [if_pos hw0, hE.2.2.1], ⟨ok1, ok2, ok3, ok4, ok5⟩, tf, kf, lf, mf, pf, sf, by dsimp only; rw [hcur]; exact S1, hT, hbt, hbk, hR⟩ d_MO_current_92
    · skip
      have e0 : sp_current w σ = (1, 0, σ) := if_pos (Or.inr (Int32.not_le.mp hc2))
      rw [e0]
      refine j_aload_n F d_MO_current_14 rfl rfl ?_
      refine j_iconst F (v := 1) d_MO_current_15 (by decide) ?_
      refine j_callV F 1 (c_MO_fail hl S1.1 1) (so_h S1.1) rfl wl_MO_39 wim_MO_fail wse_MO_fail wi_MO wco_MO_fail (by decide +kernel) (by decide) rfl rfl (Nat.le_of_ble_eq_true rfl) (by decide) (by decide) d_MO_current_16 (fun E M1 hx => hx.elim) (fun r M1 hp => ?_)
      obtain ⟨rfl, W1⟩ := hp
      exact j_iret F hr (Nat.le_refl _) (Nat.le_refl _) ⟨rfl, ⟨ok1, ok2, ok3, ok4, ok5⟩, tf, kf, lf, mf, pf, sf, mw_tr S1 W1, hT, hbt, hbk, hR⟩ d_MO_current_19
set_option maxHeartbeats 4000000 in
set_option maxRecDepth 100000 in
theorem c_MO_word (hl : l.stackTraces = false) (A : mo_A G M M h ta ke le mo pl si fa σ) (i : Int32) : ct_C l G y_MO_word b_MO_word 5 (some .long) { frames := 1, cells := 0, slots := 0, locals := 21 } [.ref h, .int i] M (fun r M1 => r = some (.long (sp_word i σ).2.1) ∧ mo_A G M M1 h ta ke le mo pl si (nI (sp_word i σ).1) (sp_word i σ).2.2) (fun _ _ => False) := by
  refine ct_of hl (by decide +kernel) (Nat.le_of_ble_eq_true rfl) ?_
  intro p e s m args below meth c F hr hnm
  obtain ⟨hok, tf, kf, lf, mf, pf, sf, ⟨S, -⟩, hT, hbt, hbk, hR⟩ := A
  obtain ⟨ok1, ok2, ok3, ok4, ok5⟩ := hok
  refine j_aload_n F d_MO_word_0 rfl rfl ?_
  refine j_iconst F (v := 0) d_MO_word_1 (by decide) ?_
  refine j_put F (so_h S) (sz_h S) rfl in_MO ty_MO ok_MO nm_MO 0 (by decide) wf_MO_33 rfl (ty := .int) (by decide +kernel) rfl rfl (Nat.le_of_ble_eq_true rfl) d_MO_word_2 ?_
  refine j_nmW (P := fun M1 => mo_W G M M1 h ta ke le mo pl si 0 (nI σ.1.length) (nI σ.2.1.length) (cu_I σ.2.2) tf kf lf mf pf sf) (mw_fa (mo_rf S) 0) (fun M1 S1 => ?_)
  cases hcur : σ.2.2 with
  | none =>
    rw [hcur] at S1
    have e0 : sp_word i σ = (1, 0, σ) := by unfold sp_word; rw [cu_none hcur]
    rw [e0]
    refine j_aload_n F d_MO_word_5 rfl rfl ?_
    refine j_get F (so_h S1.1) rfl in_MO 9 (by decide) wf_MO_29 rfl d_MO_word_6 ?_
    refine j_if_ge F (tgt := 19) d_MO_word_9 (by decide) (fun hc => absurd hc (by decide)) (fun hc => ?_)
    refine j_aload_n F d_MO_word_12 rfl rfl ?_
    refine j_iconst F (v := 1) d_MO_word_13 (by decide) ?_
    refine j_callV F 1 (c_MO_fail hl S1.1 1) (so_h S1.1) rfl wl_MO_39 wim_MO_fail wse_MO_fail wi_MO wco_MO_fail (by decide +kernel) (by decide) rfl rfl (Nat.le_of_ble_eq_true rfl) (by decide) (by decide) d_MO_word_14 (fun E M1 hx => hx.elim) (fun r M1 hp => ?_)
    obtain ⟨rfl, W1⟩ := hp
    refine j_i2l F d_MO_word_17 rfl ?_
    exact j_lret F hr (Nat.le_refl _) (Nat.le_refl _) ⟨rfl, ⟨ok1, ok2, ok3, ok4, ok5⟩, tf, kf, lf, mf, pf, sf, by dsimp only; rw [hcur]; exact mw_tr S1 W1, hT, hbt, hbk, hR⟩ d_MO_word_18
  | some cc0 =>
    rw [hcur] at S1
    have hcl := ok5 cc0 hcur
    obtain ⟨e1, he1⟩ : ∃ e1, σ.2.1[cc0]? = some e1 := ⟨_, List.getElem?_eq_getElem hcl⟩
    obtain ⟨hE, -, h40⟩ := hR.2 _ e1 he1
    have hs : sp_word i σ = if i < 0 ∨ nI e1.1.length ≤ i then (2, 0, σ) else (0, wo_8 e1.1 i.toNatClampNeg 8, σ) := by unfold sp_word; rw [cu_some hcur, he1]
    refine j_aload_n F d_MO_word_5 rfl rfl ?_
    refine j_get F (so_h S1.1) rfl in_MO 9 (by decide) wf_MO_29 rfl d_MO_word_6 ?_
    refine j_if_ge F (tgt := 19) d_MO_word_9 (by decide) (fun hc => ?_) (fun hc => absurd (nI_pos' (by omega)) hc)
    refine j_iload_n F d_MO_word_19 rfl rfl ?_
    refine j_if_lt F (tgt := 36) d_MO_word_20 (by decide) (fun hc1 => ?_) (fun hc1 => ?_)
    · skip
      have e0 : sp_word i σ = (2, 0, σ) := hs.trans (if_pos (Or.inl hc1))
      rw [e0]
      refine j_aload_n F d_MO_word_36 rfl rfl ?_
      refine j_iconst F (v := 2) d_MO_word_37 (by decide) ?_
      refine j_callV F 1 (c_MO_fail hl S1.1 2) (so_h S1.1) rfl wl_MO_39 wim_MO_fail wse_MO_fail wi_MO wco_MO_fail (by decide +kernel) (by decide) rfl rfl (Nat.le_of_ble_eq_true rfl) (by decide) (by decide) d_MO_word_38 (fun E M1 hx => hx.elim) (fun r M1 hp => ?_)
      obtain ⟨rfl, W1⟩ := hp
      refine j_i2l F d_MO_word_41 rfl ?_
      exact j_lret F hr (Nat.le_refl _) (Nat.le_refl _) ⟨rfl, ⟨ok1, ok2, ok3, ok4, ok5⟩, tf, kf, lf, mf, pf, sf, by dsimp only; rw [hcur]; exact mw_tr S1 W1, hT, hbt, hbk, hR⟩ d_MO_word_42
    · skip
      refine j_iload_n F d_MO_word_23 rfl rfl ?_
      refine j_aload_n F d_MO_word_24 rfl rfl ?_
      refine j_get F (so_h S1.1) rfl in_MO 4 (by decide) wf_MO_16 rfl d_MO_word_25 ?_
      refine j_aload_n F d_MO_word_28 rfl rfl ?_
      refine j_get F (so_h S1.1) rfl in_MO 9 (by decide) wf_MO_29 rfl d_MO_word_29 ?_
      refine j_ialdN F (so_le S1.1) (by omega) (by decide) d_MO_word_32 ?_
      refine j_val (y := nI e1.1.length) (hE.1) ?_
      refine j_icmp_lt F (tgt := 43) d_MO_word_33 (by decide) (fun hc2 => ?_) (fun hc2 => ?_)
      · skip
        obtain ⟨i0, hi1, rfl⟩ := nI_of hc1
        have hi2 : i0 < e1.1.length := (nI_ltI (by omega) (by omega)).mp hc2
        have e0 : sp_word (nI i0) σ = (0, wo_8 e1.1 i0 8, σ) := by rw [hs, if_neg (fun z => z.elim hc1 (fun z => absurd hc2 (Int32.not_lt.mpr z))), nI_clamp hi1]
        rw [e0]
        refine j_lconst F (v := 0) d_MO_word_43 (by decide) ?_
        refine j_lstore_n F (lv1 := [(2, _), (0, _), (1, _)]) d_MO_word_44 rfl (by decide) rfl ?_
        refine j_iload_n F d_MO_word_45 rfl rfl ?_
        refine j_istore F (lv1 := [(4, _), (2, _), (0, _), (1, _)]) d_MO_word_46 (by decide) rfl ?_
        refine j_lv (lv1 := [(4, .int (nI (i0 + 0))), (2, .long (wo_8 e1.1 i0 0)), (0, .ref h), (1, .int (nI i0))]) rfl ?_
        refine j_ind (α := Nat) (fun n => 8 - n) (fun _ => M1) (fun _ => 0) (fun _ => 0) (fun n => [(4, .int (nI (i0 + n))), (2, .long (wo_8 e1.1 i0 n)), (0, .ref h), (1, .int (nI i0))]) (fun _ => []) (fun n => n ≤ 8) ?_ 0 (Nat.zero_le _)
        intro n hn ih
        refine j_iload F d_MO_word_48 rfl ?_
        refine j_iload_n F d_MO_word_50 rfl rfl ?_
        refine j_bipush F (v := 8) d_MO_word_51 (by decide) ?_
        refine j_iadd F d_MO_word_53 ?_
        refine j_val (y := nI (i0 + 8)) (nI_add i0 8) ?_
        refine j_icmp_ge F (tgt := 108) d_MO_word_54 (by decide) (fun hc3 => ?_) (fun hc3 => ?_)
        · skip
          have hn8 : n = 8 := by
            have := (nI_leI (a := i0 + 8) (b := i0 + n) (by omega) (by omega)).mp hc3
            omega
          subst hn8
          refine j_lload_n F d_MO_word_108 rfl rfl ?_
          exact j_lret F hr (Nat.le_refl _) (Nat.le_refl _) ⟨rfl, ⟨ok1, ok2, ok3, ok4, ok5⟩, tf, kf, lf, mf, pf, sf, by dsimp only; rw [hcur]; exact S1, hT, hbt, hbk, hR⟩ d_MO_word_109
        · skip
          have hn8 : n < 8 := by
            apply Nat.not_le.mp
            intro z
            exact hc3 ((nI_leI (by omega) (by omega)).mpr (by omega))
          refine j_lload_n F d_MO_word_57 rfl rfl ?_
          refine j_ldc2 F wk_MO_62 d_MO_word_58 ?_
          refine j_lmul F d_MO_word_61 ?_
          refine j_iload F d_MO_word_62 rfl ?_
          refine j_aload_n F d_MO_word_64 rfl rfl ?_
          refine j_get F (so_h S1.1) rfl in_MO 4 (by decide) wf_MO_16 rfl d_MO_word_65 ?_
          refine j_aload_n F d_MO_word_68 rfl rfl ?_
          refine j_get F (so_h S1.1) rfl in_MO 9 (by decide) wf_MO_29 rfl d_MO_word_69 ?_
          refine j_ialdN F (so_le S1.1) (by omega) (by decide) d_MO_word_72 ?_
          refine j_val (y := nI e1.1.length) (hE.1) ?_
          refine j_cut (α := Unit) (fun _ => True) (fun _ => M1) (fun _ => 0) (fun _ => 0) (fun _ => [(4, .int (nI (i0 + n))), (2, .long (wo_8 e1.1 i0 n)), (0, .ref h), (1, .int (nI i0))]) 99 (fun _ => [.int (wo_b e1.1 (i0 + n)), .long (wo_8 e1.1 i0 n * 256)]) ?_ (fun at99 => ?_)
          · skip
            intro _ _
            refine j_i2l F d_MO_word_99 rfl ?_
            refine j_ladd F d_MO_word_100 ?_
            refine j_lstore_n F (lv1 := [(2, _), (4, _), (0, _), (1, _)]) d_MO_word_101 rfl (by decide) rfl ?_
            refine j_iinc F (lv1 := [(4, _), (2, _), (0, _), (1, _)]) d_MO_word_102 rfl (nI_1 _) (by decide) rfl ?_
            refine j_goto F (tgt := 48) d_MO_word_105 (by decide) ?_
            exact ih (n + 1) hn8 (by omega)
          refine j_icmp_ge F (tgt := 98) d_MO_word_73 (by decide) (fun hc4 => ?_) (fun hc4 => ?_)
          · skip
            have hge : e1.1.length ≤ i0 + n := (nI_leI (by omega) (by omega)).mp hc4
            have hwb : wo_b e1.1 (i0 + n) = 0 := if_neg (by omega)
            rw [hwb] at at99
            refine j_iconst F (v := 0) d_MO_word_98 (by decide) ?_
            exact at99 () trivial
          · skip
            have hlt : i0 + n < e1.1.length := Nat.not_le.mp (fun z => hc4 ((nI_leI (by omega) (by omega)).mpr z))
            have hwb : wo_b e1.1 (i0 + n) = nI (un (e1.1.getD (i0 + n) 0)) := if_pos hlt
            rw [hwb] at at99
            refine j_aload_n F d_MO_word_76 rfl rfl ?_
            refine j_get F (so_h S1.1) rfl in_MO 3 (by decide) wf_MO_13 rfl d_MO_word_77 ?_
            refine j_bipush F (v := 40) d_MO_word_80 (by decide) ?_
            refine j_aload_n F d_MO_word_82 rfl rfl ?_
            refine j_get F (so_h S1.1) rfl in_MO 9 (by decide) wf_MO_29 rfl d_MO_word_83 ?_
            refine j_imul F d_MO_word_86 ?_
            refine j_iload F d_MO_word_87 rfl ?_
            refine j_iadd F d_MO_word_89 ?_
            refine j_val (y := nI (40 * cc0 + (i0 + n))) (ix_40 cc0 (i0 + n)) ?_
            refine j_baldN F (so_ke S1.1) (by omega) (by decide) d_MO_word_90 ?_
            refine j_val (y := e1.1.getD (i0 + n) 0) (hE.2.1 _ hlt) ?_
            refine j_sipush F (v := 255) d_MO_word_91 (by decide) ?_
            refine j_iand F d_MO_word_94 ?_
            refine j_val (y := nI (un (e1.1.getD (i0 + n) 0))) (un_and _) ?_
            refine j_goto F (tgt := 99) d_MO_word_95 (by decide) ?_
            exact at99 () trivial
      · skip
        have e0 : sp_word i σ = (2, 0, σ) := hs.trans (if_pos (Or.inr (Int32.not_lt.mp hc2)))
        rw [e0]
        refine j_aload_n F d_MO_word_36 rfl rfl ?_
        refine j_iconst F (v := 2) d_MO_word_37 (by decide) ?_
        refine j_callV F 1 (c_MO_fail hl S1.1 2) (so_h S1.1) rfl wl_MO_39 wim_MO_fail wse_MO_fail wi_MO wco_MO_fail (by decide +kernel) (by decide) rfl rfl (Nat.le_of_ble_eq_true rfl) (by decide) (by decide) d_MO_word_38 (fun E M1 hx => hx.elim) (fun r M1 hp => ?_)
        obtain ⟨rfl, W1⟩ := hp
        refine j_i2l F d_MO_word_41 rfl ?_
        exact j_lret F hr (Nat.le_refl _) (Nat.le_refl _) ⟨rfl, ⟨ok1, ok2, ok3, ok4, ok5⟩, tf, kf, lf, mf, pf, sf, by dsimp only; rw [hcur]; exact mw_tr S1 W1, hT, hbt, hbk, hR⟩ d_MO_word_42
set_option maxHeartbeats 4000000 in
set_option maxRecDepth 100000 in
theorem c_MO_feed (hl : l.stackTraces = false) (A : mo_A G M M h ta ke le mo pl si fa σ) (a0 a1 a2 a3 a4 : Int32) : ct_C l G y_MO_feed b_MO_feed 8 (some .int) { frames := 1, cells := 0, slots := 0, locals := 21 } [.ref h, .int a0, .int a1, .int a2, .int a3, .int a4] M (fun r M1 => r = some (.int (sp_feed a0 a1 a2 a3 a4 σ).2.1) ∧ mo_A G M M1 h ta ke le mo pl si (nI (sp_feed a0 a1 a2 a3 a4 σ).1) (sp_feed a0 a1 a2 a3 a4 σ).2.2) (fun _ _ => False) := by
  refine ct_of hl (by decide +kernel) (Nat.le_of_ble_eq_true rfl) ?_
  intro p e s m args below meth c F hr hnm
  obtain ⟨hok, tf, kf, lf, mf, pf, sf, ⟨S, -⟩, hT, hbt, hbk, hR⟩ := A
  obtain ⟨ok1, ok2, ok3, ok4, ok5⟩ := hok
  refine j_aload_n F d_MO_feed_0 rfl rfl ?_
  refine j_iconst F (v := 0) d_MO_feed_1 (by decide) ?_
  refine j_put F (so_h S) (sz_h S) rfl in_MO ty_MO ok_MO nm_MO 0 (by decide) wf_MO_33 rfl (ty := .int) (by decide +kernel) rfl rfl (Nat.le_of_ble_eq_true rfl) d_MO_feed_2 ?_
  refine j_nmW (P := fun M1 => mo_W G M M1 h ta ke le mo pl si 0 (nI σ.1.length) (nI σ.2.1.length) (cu_I σ.2.2) tf kf lf mf pf sf) (mw_fa (mo_rf S) 0) (fun M1 S1 => ?_)
  refine j_aload_n F d_MO_feed_5 rfl rfl ?_
  refine j_get F (so_h S1.1) rfl in_MO 2 (by decide) wf_MO_36 rfl d_MO_feed_6 ?_
  refine j_bipush F (v := 20) d_MO_feed_9 (by decide) ?_
  refine j_iadd F d_MO_feed_11 ?_
  refine j_val (y := nI (σ.1.length + 20)) (nI_add _ 20) ?_
  refine j_bipush F (v := 60) d_MO_feed_12 (by decide) ?_
  refine j_icmp_le F (tgt := 23) d_MO_feed_14 (by decide) (fun hc => ?_) (fun hc => ?_)
  · skip
    have hlen : σ.1.length ≤ 40 := by
      have := (nI_leI (a := σ.1.length + 20) (b := 60) (by omega) (by decide)).mp hc
      omega
    have e0 : sp_feed a0 a1 a2 a3 a4 σ = (0, nI (σ.1.length + 20), (σ.1 ++ by20 a0 a1 a2 a3 a4, σ.2)) := if_neg (by omega)
    rw [e0]
    have hb20 := by20_len a0 a1 a2 a3 a4
    refine j_iconst F (v := 0) d_MO_feed_23 (by decide) ?_
    refine j_istore F (lv1 := [(6, _), (0, _), (1, _), (2, _), (3, _), (4, _), (5, _)]) d_MO_feed_24 (by decide) rfl ?_
    refine j_lv (lv1 := [(6, .int (nI 0)), (0, .ref h), (1, .int a0), (2, .int a1), (3, .int a2), (4, .int a3), (5, .int a4)]) rfl ?_
    refine j_ind (α := Nat × mp_T) (fun x => 20 - x.1) (fun x => x.2) (fun _ => 0) (fun _ => 0) (fun x => [(6, .int (nI x.1)), (0, .ref h), (1, .int a0), (2, .int a1), (3, .int a2), (4, .int a3), (5, .int a4)]) (fun _ => []) (fun x => x.1 ≤ 20 ∧ ∃ tf1 : Nat → Int32, mo_W G M x.2 h ta ke le mo pl si 0 (nI (σ.1.length + x.1)) (nI σ.2.1.length) (cu_I σ.2.2) tf1 kf lf mf pf sf ∧ tp_R (σ.1 ++ (by20 a0 a1 a2 a3 a4).take x.1) tf1 ∧ by_Q tf1) ?_ (0, M1) ⟨Nat.zero_le _, tf, S1, by rw [List.take_zero, List.append_nil]; exact hT, hbt⟩
    intro x hx ih
    obtain ⟨j, Mx⟩ := x
    obtain ⟨hj, tf1, S2, hT1, hbt1⟩ := hx
    dsimp only at hj S2 hT1 ⊢
    refine j_iload F d_MO_feed_26 rfl ?_
    refine j_bipush F (v := 20) d_MO_feed_28 (by decide) ?_
    refine j_icmp_ge F (tgt := 120) d_MO_feed_30 (by decide) (fun hc2 => ?_) (fun hc2 => ?_)
    · skip
      have hj20 : j = 20 := Nat.le_antisymm hj ((nI_leI (a := 20) (by decide) (by omega)).mp hc2)
      subst hj20
      rw [List.take_of_length_le (by omega)] at hT1
      refine j_aload_n F d_MO_feed_120 rfl rfl ?_
      refine j_get F (so_h S2.1) rfl in_MO 2 (by decide) wf_MO_36 rfl d_MO_feed_121 ?_
      refine j_iret F hr (Nat.le_refl _) (Nat.le_refl _) ⟨rfl, ⟨?_, ?_, ok3, ok4, ok5⟩, tf1, kf, lf, mf, pf, sf, ?_, hT1, hbt1, hbk, hR⟩ d_MO_feed_124
      · dsimp only
        rw [List.length_append, hb20]
        omega
      · intro x hx
        rcases List.mem_append.mp hx with z | z
        · exact ok2 x z
        · obtain ⟨q, -, rfl⟩ := List.mem_map.mp z
          exact b1_byte _ _
      · dsimp only
        rw [List.length_append, hb20]
        exact S2
    · skip
      have hj20 : j < 20 := Nat.not_le.mp (fun z => hc2 ((nI_leI (a := 20) (by decide) (by omega)).mpr z))
      refine j_cut (α := Unit) (fun _ => True) (fun _ => Mx) (fun _ => 0) (fun _ => 0) (fun _ => [(6, .int (nI j)), (0, .ref h), (1, .int a0), (2, .int a1), (3, .int a2), (4, .int a3), (5, .int a4)]) 79 (fun _ => [.int (se_5 a0 a1 a2 a3 a4 (j / 4))]) ?_ (fun at79 => ?_)
      · skip
        intro _ _
        refine j_istore F (lv1 := [(7, _), (6, _), (0, _), (1, _), (2, _), (3, _), (4, _), (5, _)]) d_MO_feed_79 (by decide) rfl ?_
        refine j_aload_n F d_MO_feed_81 rfl rfl ?_
        refine j_get F (so_h S2.1) rfl in_MO 1 (by decide) wf_MO_7 rfl d_MO_feed_82 ?_
        refine j_aload_n F d_MO_feed_85 rfl rfl ?_
        refine j_get F (so_h S2.1) rfl in_MO 2 (by decide) wf_MO_36 rfl d_MO_feed_86 ?_
        refine j_iload F d_MO_feed_89 rfl ?_
        refine j_bipush F (v := 24) d_MO_feed_91 (by decide) ?_
        refine j_bipush F (v := 8) d_MO_feed_93 (by decide) ?_
        refine j_iload F d_MO_feed_95 rfl ?_
        refine j_iconst F (v := 4) d_MO_feed_97 (by decide) ?_
        refine j_irem F d_MO_feed_98 (by decide) ?_
        refine j_val (y := nI (j % 4)) (re_4 hj20) ?_
        refine j_imul F d_MO_feed_99 ?_
        refine j_isub F d_MO_feed_100 ?_
        refine j_val (y := nI (24 - 8 * (j % 4))) (sh_8) ?_
        refine j_ishr F d_MO_feed_101 ?_
        refine j_i2b F d_MO_feed_102 rfl ?_
        refine j_bastN F (so_ta S2.1) (sz_ta S2.1) (by omega) (by decide) (b1_byte _ _) d_MO_feed_103 ?_
        refine j_nmW (P := fun M1 => mo_W G M M1 h ta ke le mo pl si 0 (nI (σ.1.length + j)) (nI σ.2.1.length) (cu_I σ.2.2) (upd tf1 (σ.1.length + j) (b1 (se_5 a0 a1 a2 a3 a4 (j / 4)) (j % 4))) kf lf mf pf sf) (mw_tf S2 _) (fun M3 S3 => ?_)
        refine j_aload_n F d_MO_feed_104 rfl rfl ?_
        refine j_dup F d_MO_feed_105 rfl ?_
        refine j_get F (so_h S3.1) rfl in_MO 2 (by decide) wf_MO_36 rfl d_MO_feed_106 ?_
        refine j_iconst F (v := 1) d_MO_feed_109 (by decide) ?_
        refine j_iadd F d_MO_feed_110 ?_
        refine j_val (y := nI (σ.1.length + (j + 1))) (nI_1 _) ?_
        refine j_put F (so_h S3.1) (sz_h S3.1) rfl in_MO ty_MO ok_MO nm_MO 2 (by decide) wf_MO_36 rfl (ty := .int) (by decide +kernel) rfl rfl (Nat.le_of_ble_eq_true rfl) d_MO_feed_111 ?_
        refine j_nmW (P := fun M1 => mo_W G M M1 h ta ke le mo pl si 0 (nI (σ.1.length + (j + 1))) (nI σ.2.1.length) (cu_I σ.2.2) (upd tf1 (σ.1.length + j) (b1 (se_5 a0 a1 a2 a3 a4 (j / 4)) (j % 4))) kf lf mf pf sf) (mw_tl S3 _) (fun M4 S4 => ?_)
        refine j_iinc F (lv1 := [(6, _), (7, _), (0, _), (1, _), (2, _), (3, _), (4, _), (5, _)]) d_MO_feed_114 rfl (nI_1 _) (by decide) rfl ?_
        refine j_sub [0, 2, 3, 4, 5, 6, 7] rfl ?_
        refine j_goto F (tgt := 26) d_MO_feed_117 (by decide) ?_
        refine ih (j + 1, M4) ⟨hj20, _, S4, ?_, by_upd hbt1 (b1_byte _ _)⟩ (by dsimp only; omega)
        dsimp only
        rw [ta_succ _ _ (by omega), by20_at _ _ _ _ _ hj20]
        have := tp_app (b1 (se_5 a0 a1 a2 a3 a4 (j / 4)) (j % 4)) hT1
        rw [ta_len _ _ (by omega)] at this
        exact this
      refine j_iload F d_MO_feed_33 rfl ?_
      refine j_iconst F (v := 4) d_MO_feed_35 (by decide) ?_
      refine j_icmp_ge F (tgt := 43) d_MO_feed_36 (by decide) (fun hq4 => ?_) (fun hq4 => ?_)
      · skip
        have h4 : 4 ≤ j := (nI_leI (a := 4) (by decide) (by omega)).mp hq4
        refine j_iload F d_MO_feed_43 rfl ?_
        refine j_bipush F (v := 8) d_MO_feed_45 (by decide) ?_
        refine j_icmp_ge F (tgt := 54) d_MO_feed_47 (by decide) (fun hq8 => ?_) (fun hq8 => ?_)
        · skip
          have h8 : 8 ≤ j := (nI_leI (a := 8) (by decide) (by omega)).mp hq8
          refine j_iload F d_MO_feed_54 rfl ?_
          refine j_bipush F (v := 12) d_MO_feed_56 (by decide) ?_
          refine j_icmp_ge F (tgt := 65) d_MO_feed_58 (by decide) (fun hq12 => ?_) (fun hq12 => ?_)
          · skip
            have h12 : 12 ≤ j := (nI_leI (a := 12) (by decide) (by omega)).mp hq12
            refine j_iload F d_MO_feed_65 rfl ?_
            refine j_bipush F (v := 16) d_MO_feed_67 (by decide) ?_
            refine j_icmp_ge F (tgt := 77) d_MO_feed_69 (by decide) (fun hq16 => ?_) (fun hq16 => ?_)
            · skip
              have h16 : 16 ≤ j := (nI_leI (a := 16) (by decide) (by omega)).mp hq16
              have hse : se_5 a0 a1 a2 a3 a4 (j / 4) = a4 := by unfold se_5; rw [if_neg (by omega), if_neg (by omega), if_neg (by omega), if_neg (by omega)]
              rw [hse] at at79
              refine j_iload F d_MO_feed_77 rfl ?_
              exact at79 () trivial
            · skip
              have h16 : j < 16 := Nat.not_le.mp (fun z => hq16 ((nI_leI (a := 16) (by decide) (by omega)).mpr z))
              have hse : se_5 a0 a1 a2 a3 a4 (j / 4) = a3 := by unfold se_5; rw [if_neg (by omega), if_neg (by omega), if_neg (by omega), if_pos (by omega)]
              rw [hse] at at79
              refine j_iload F d_MO_feed_72 rfl ?_
              refine j_goto F (tgt := 79) d_MO_feed_74 (by decide) ?_
              exact at79 () trivial
          · skip
            have h12 : j < 12 := Nat.not_le.mp (fun z => hq12 ((nI_leI (a := 12) (by decide) (by omega)).mpr z))
            have hse : se_5 a0 a1 a2 a3 a4 (j / 4) = a2 := by unfold se_5; rw [if_neg (by omega), if_neg (by omega), if_pos (by omega)]
            rw [hse] at at79
            refine j_iload_n F d_MO_feed_61 rfl rfl ?_
            refine j_goto F (tgt := 79) d_MO_feed_62 (by decide) ?_
            exact at79 () trivial
        · skip
          have h8 : j < 8 := Nat.not_le.mp (fun z => hq8 ((nI_leI (a := 8) (by decide) (by omega)).mpr z))
          have hse : se_5 a0 a1 a2 a3 a4 (j / 4) = a1 := by unfold se_5; rw [if_neg (by omega), if_pos (by omega)]
          rw [hse] at at79
          refine j_iload_n F d_MO_feed_50 rfl rfl ?_
          refine j_goto F (tgt := 79) d_MO_feed_51 (by decide) ?_
          exact at79 () trivial
      · skip
        have h4 : j < 4 := Nat.not_le.mp (fun z => hq4 ((nI_leI (a := 4) (by decide) (by omega)).mpr z))
        have hse : se_5 a0 a1 a2 a3 a4 (j / 4) = a0 := by unfold se_5; rw [if_pos (by omega)]
        rw [hse] at at79
        refine j_iload_n F d_MO_feed_39 rfl rfl ?_
        refine j_goto F (tgt := 79) d_MO_feed_40 (by decide) ?_
        exact at79 () trivial
  · skip
    have hlen : 40 < σ.1.length := by
      apply Nat.not_le.mp
      intro z
      exact hc ((nI_leI (a := σ.1.length + 20) (b := 60) (by omega) (by decide)).mpr (by omega))
    have e0 : sp_feed a0 a1 a2 a3 a4 σ = (1, 0, σ) := if_pos hlen
    rw [e0]
    refine j_aload_n F d_MO_feed_17 rfl rfl ?_
    refine j_iconst F (v := 1) d_MO_feed_18 (by decide) ?_
    refine j_callV F 1 (c_MO_fail hl S1.1 1) (so_h S1.1) rfl wl_MO_39 wim_MO_fail wse_MO_fail wi_MO wco_MO_fail (by decide +kernel) (by decide) rfl rfl (Nat.le_of_ble_eq_true rfl) (by decide) (by decide) d_MO_feed_19 (fun E M1 hx => hx.elim) (fun r M1 hp => ?_)
    obtain ⟨rfl, W1⟩ := hp
    exact j_iret F hr (Nat.le_refl _) (Nat.le_refl _) ⟨rfl, ⟨ok1, ok2, ok3, ok4, ok5⟩, tf, kf, lf, mf, pf, sf, mw_tr S1 W1, hT, hbt, hbk, hR⟩ d_MO_feed_22
end MO5
end
section
theorem ins_lt {es : List en_T} {v i : Nat} {x : en_T} (hv : v ≤ es.length) (hi : i < v) : (pu_ins es v x)[i]? = es[i]? := by
  unfold pu_ins
  rw [List.getElem?_append_left (by rw [List.length_take]; omega), List.getElem?_take, if_pos hi]
theorem ins_eq {es : List en_T} {v : Nat} {x : en_T} (hv : v ≤ es.length) : (pu_ins es v x)[v]? = some x := by
  unfold pu_ins
  rw [List.getElem?_append_right (by rw [List.length_take]; omega), List.length_take, Nat.min_eq_left hv, Nat.sub_self]
  rfl
theorem ins_gt {es : List en_T} {v i : Nat} {x : en_T} (hv : v ≤ es.length) (hi : v < i) : (pu_ins es v x)[i]? = es[i - 1]? := by
  unfold pu_ins
  rw [List.getElem?_append_right (by rw [List.length_take]; omega), List.length_take, Nat.min_eq_left hv]
  obtain ⟨d, rfl⟩ : ∃ d, i = v + 1 + d := ⟨i - v - 1, by omega⟩
  rw [show v + 1 + d - v = d + 1 by omega, List.getElem?_cons_succ, List.getElem?_drop]
  congr 1
  omega
theorem ins_len {es : List en_T} {v : Nat} {x : en_T} (hv : v ≤ es.length) : (pu_ins es v x).length = es.length + 1 := by
  unfold pu_ins
  rw [List.length_append, List.length_cons, List.length_take, List.length_drop]
  omega
theorem ins_mem {es : List en_T} {v : Nat} {x e : en_T} (h : e ∈ pu_ins es v x) : e = x ∨ e ∈ es := by
  unfold pu_ins at h
  rcases List.mem_append.mp h with z | z
  · exact Or.inr (List.mem_of_mem_take z)
  · rcases List.mem_cons.mp z with z | z
    · exact Or.inl z
    · exact Or.inr (List.mem_of_mem_drop z)
theorem set_len (es : List en_T) (v : Nat) (p z : Int32) : (pu_set es v p z).length = es.length := List.length_modify _ _ _
theorem set_at {es : List en_T} {v i : Nat} {p z : Int32} : (pu_set es v p z)[i]? = if v = i then (es[i]?).map (fun e => (e.1, e.2.1, p, z)) else es[i]? := by
  unfold pu_set
  rw [List.getElem?_modify]
  by_cases h : v = i
  · simp [h]
  · simp [h]
theorem set_mem {es : List en_T} {v : Nat} {p z : Int32} {e : en_T} (h : e ∈ pu_set es v p z) : ∃ e0 ∈ es, e.1 = e0.1 ∧ e.2.1 = e0.2.1 := by
  obtain ⟨i, hi⟩ := List.getElem?_of_mem h
  rw [set_at] at hi
  split at hi
  · cases he : es[i]? with
    | none => rw [he] at hi; cases hi
    | some e0 =>
      rw [he] at hi
      cases hi
      exact ⟨e0, List.mem_of_getElem? he, rfl, rfl⟩
  · exact ⟨e, List.mem_of_getElem? hi, rfl, rfl⟩
/-- places and sizes of one row are written -/
theorem mo_R_set {es : List en_T} {lf kf mf pf sf : Nat → Int32} (v : Nat) (p z : Int32) (h : mo_R es lf kf mf pf sf) : mo_R (pu_set es v p z) lf kf mf (upd pf v p) (upd sf v z) := by
  refine ⟨by rw [set_len]; exact h.1, fun i e he => ?_⟩
  rw [set_at] at he
  split at he
  · rename_i hvi
    subst hvi
    cases h0 : es[v]? with
    | none => rw [h0] at he; cases he
    | some e0 =>
      rw [h0] at he
      cases he
      obtain ⟨⟨q1, q2, q3, q4, q5⟩, q6⟩ := h.2 v e0 h0
      exact ⟨⟨q1, q2, q3, pk_us, pk_us⟩, q6⟩
  · rename_i hvi
    obtain ⟨⟨q1, q2, q3, q4, q5⟩, q6⟩ := h.2 i e he
    exact ⟨⟨q1, q2, q3, by rw [pk_un (Ne.symm hvi)]; exact q4, by rw [pk_un (Ne.symm hvi)]; exact q5⟩, q6⟩
/-- a row is put in between -/
theorem mo_R_ins {es : List en_T} {lf kf mf pf sf lf1 kf1 mf1 pf1 sf1 kf2 : Nat → Int32} {v : Nat} {x : en_T} (h : mo_R es lf kf mf pf sf) (hv : v ≤ es.length) (hl : es.length < 160) (hx1 : 1 ≤ x.1.length) (hx2 : x.1.length ≤ 40)
    (hup : ∀ i, v < i → i ≤ es.length → rw_Q i (i - 1) lf kf mf pf sf lf1 kf1 mf1 pf1 sf1) (hlo : ∀ i, i ≤ v → rw_Q i i lf kf mf pf sf lf1 kf1 mf1 pf1 sf1) (hk1 : ∀ c, c < x.1.length → kf2 (40 * v + c) = x.1.getD c 0) (hk2 : ∀ q, (q < 40 * v ∨ 40 * v + x.1.length ≤ q) → kf2 q = kf1 q) :
    mo_R (pu_ins es v x) (upd lf1 v (nI x.1.length)) kf2 (upd mf1 v x.2.1) (upd pf1 v x.2.2.1) (upd sf1 v x.2.2.2) := by
  refine ⟨by rw [ins_len hv]; omega, fun i e he => ?_⟩
  rcases Nat.lt_trichotomy i v with hi | hi | hi
  · rw [ins_lt hv hi] at he
    obtain ⟨⟨q1, q2, q3, q4, q5⟩, q6⟩ := h.2 i e he
    obtain ⟨r1, r2, r3, r4, r5⟩ := hlo i (by omega)
    have hne : i ≠ v := by omega
    exact ⟨⟨by rw [pk_un hne, r1]; exact q1, fun j hj => by rw [hk2 _ (by omega), r5 j (by omega)]; exact q2 j hj, by rw [pk_un hne, r2]; exact q3, by rw [pk_un hne, r3]; exact q4, by rw [pk_un hne, r4]; exact q5⟩, q6⟩
  · subst hi
    rw [ins_eq hv] at he
    cases he
    exact ⟨⟨pk_us, hk1, pk_us, pk_us, pk_us⟩, hx1, hx2⟩
  · rw [ins_gt hv hi] at he
    obtain ⟨⟨q1, q2, q3, q4, q5⟩, q6⟩ := h.2 (i - 1) e he
    have hil : i - 1 < es.length := (List.getElem?_eq_some_iff.mp he).1
    obtain ⟨r1, r2, r3, r4, r5⟩ := hup i hi (by omega)
    have hne : i ≠ v := by omega
    exact ⟨⟨by rw [pk_un hne, r1]; exact q1, fun j hj => by rw [hk2 _ (by omega), r5 j (by omega)]; exact q2 j hj, by rw [pk_un hne, r2]; exact q3, by rw [pk_un hne, r3]; exact q4, by rw [pk_un hne, r4]; exact q5⟩, q6⟩
theorem pu_badE (m p z : Int32) (σ : sg_T) : pu_bad m p z σ = true ↔ (m < 0 ∨ p < -1 ∨ z < 0 ∨ 1000 < z ∨ σ.1.length < 1 ∨ 40 < σ.1.length) := by
  unfold pu_bad
  simp only [Bool.or_eq_true, decide_eq_true_eq]
  constructor
  · rintro (((((h | h) | h) | h) | h) | h)
    · exact Or.inl h
    · exact Or.inr (Or.inl h)
    · exact Or.inr (Or.inr (Or.inl h))
    · exact Or.inr (Or.inr (Or.inr (Or.inl h)))
    · exact Or.inr (Or.inr (Or.inr (Or.inr (Or.inl h))))
    · exact Or.inr (Or.inr (Or.inr (Or.inr (Or.inr h))))
  · rintro (h | h | h | h | h | h)
    · exact Or.inl (Or.inl (Or.inl (Or.inl (Or.inl h))))
    · exact Or.inl (Or.inl (Or.inl (Or.inl (Or.inr h))))
    · exact Or.inl (Or.inl (Or.inl (Or.inr h)))
    · exact Or.inl (Or.inl (Or.inr h))
    · exact Or.inl (Or.inr h)
    · exact Or.inr h
/-- what is current behind a put -/
theorem pu_cl {v n : Nat} {c : Option Nat} (h : ∀ i, c = some i → i < n) : ∀ i, pu_cur v c = some i → i < n + 1 := by
  intro i hi
  cases c with
  | none => cases hi
  | some j =>
    have hj := h j rfl
    simp only [pu_cur, Option.map_some, Option.some.injEq] at hi
    split at hi <;> omega
section MO6
variable {es : List en_T} {σ : sg_T} {l : Launch} {G : gv_T} {M M0 : mp_T} {h ta ke le mo pl si : Nat} {fa tl sz ap : Int32} {tf kf lf mf pf sf : Nat → Int32}
set_option maxHeartbeats 4000000 in
set_option maxRecDepth 100000 in
theorem c_MO_put (hl : l.stackTraces = false) (A : mo_A G M M h ta ke le mo pl si fa σ) (mm pp zz : Int32) : ct_C l G y_MO_put b_MO_put 8 (some .int) { frames := 2, cells := 0, slots := 0, locals := 48 } [.ref h, .int mm, .int pp, .int zz] M (fun r M1 => r = some (.int (sp_put mm pp zz σ).2.1) ∧ mo_A G M M1 h ta ke le mo pl si (nI (sp_put mm pp zz σ).1) (sp_put mm pp zz σ).2.2) (fun _ _ => False) := by
  refine ct_of hl (by decide +kernel) (Nat.le_of_ble_eq_true rfl) ?_
  intro p e s m args below meth c F hr hnm
  obtain ⟨hok, tf, kf, lf, mf, pf, sf, ⟨S, -⟩, hT, hbt, hbk, hR⟩ := A
  obtain ⟨ok1, ok2, ok3, ok4, ok5⟩ := hok
  refine j_aload_n F d_MO_put_0 rfl rfl ?_
  refine j_iconst F (v := 0) d_MO_put_1 (by decide) ?_
  refine j_put F (so_h S) (sz_h S) rfl in_MO ty_MO ok_MO nm_MO 0 (by decide) wf_MO_33 rfl (ty := .int) (by decide +kernel) rfl rfl (Nat.le_of_ble_eq_true rfl) d_MO_put_2 ?_
  refine j_nmW (P := fun M1 => mo_W G M M1 h ta ke le mo pl si 0 (nI σ.1.length) (nI σ.2.1.length) (cu_I σ.2.2) tf kf lf mf pf sf) (mw_fa (mo_rf S) 0) (fun M1 S1 => ?_)
  refine j_aload_n F d_MO_put_5 rfl rfl ?_
  refine j_get F (so_h S1.1) rfl in_MO 2 (by decide) wf_MO_36 rfl d_MO_put_6 ?_
  refine j_iconst F (v := 1) d_MO_put_9 (by decide) ?_
  refine j_icmp_lt F (tgt := 42) d_MO_put_10 (by decide) (fun h1 => ?_) (fun h1 => ?_)
  · skip
    have e0 : sp_put mm pp zz σ = (1, 0, σ) := if_pos ((pu_badE _ _ _ _).mpr (Or.inr (Or.inr (Or.inr (Or.inr (Or.inl ((nI_ltI (b := 1) (by omega) (by decide)).mp h1)))))))
    rw [e0]
    refine j_aload_n F d_MO_put_42 rfl rfl ?_
    refine j_iconst F (v := 1) d_MO_put_43 (by decide) ?_
    refine j_callV F 1 (c_MO_fail hl S1.1 1) (so_h S1.1) rfl wl_MO_39 wim_MO_fail wse_MO_fail wi_MO wco_MO_fail (by decide +kernel) (by decide) rfl rfl (Nat.le_of_ble_eq_true rfl) (by decide) (by decide) d_MO_put_44 (fun E M1 hx => hx.elim) (fun r M1 hp => ?_)
    obtain ⟨rfl, W1⟩ := hp
    exact j_iret F hr (Nat.le_refl _) (Nat.le_refl _) ⟨rfl, ⟨ok1, ok2, ok3, ok4, ok5⟩, tf, kf, lf, mf, pf, sf, mw_tr S1 W1, hT, hbt, hbk, hR⟩ d_MO_put_47
  · skip
    refine j_aload_n F d_MO_put_13 rfl rfl ?_
    refine j_get F (so_h S1.1) rfl in_MO 2 (by decide) wf_MO_36 rfl d_MO_put_14 ?_
    refine j_bipush F (v := 40) d_MO_put_17 (by decide) ?_
    refine j_icmp_gt F (tgt := 42) d_MO_put_19 (by decide) (fun h2 => ?_) (fun h2 => ?_)
    · skip
      have e0 : sp_put mm pp zz σ = (1, 0, σ) := if_pos ((pu_badE _ _ _ _).mpr (Or.inr (Or.inr (Or.inr (Or.inr (Or.inr ((nI_ltI (a := 40) (by decide) (by omega)).mp h2)))))))
      rw [e0]
      refine j_aload_n F d_MO_put_42 rfl rfl ?_
      refine j_iconst F (v := 1) d_MO_put_43 (by decide) ?_
      refine j_callV F 1 (c_MO_fail hl S1.1 1) (so_h S1.1) rfl wl_MO_39 wim_MO_fail wse_MO_fail wi_MO wco_MO_fail (by decide +kernel) (by decide) rfl rfl (Nat.le_of_ble_eq_true rfl) (by decide) (by decide) d_MO_put_44 (fun E M1 hx => hx.elim) (fun r M1 hp => ?_)
      obtain ⟨rfl, W1⟩ := hp
      exact j_iret F hr (Nat.le_refl _) (Nat.le_refl _) ⟨rfl, ⟨ok1, ok2, ok3, ok4, ok5⟩, tf, kf, lf, mf, pf, sf, mw_tr S1 W1, hT, hbt, hbk, hR⟩ d_MO_put_47
    · skip
      refine j_iload_n F d_MO_put_22 rfl rfl ?_
      refine j_if_lt F (tgt := 42) d_MO_put_23 (by decide) (fun h3 => ?_) (fun h3 => ?_)
      · skip
        have e0 : sp_put mm pp zz σ = (1, 0, σ) := if_pos ((pu_badE _ _ _ _).mpr (Or.inl (h3)))
        rw [e0]
        refine j_aload_n F d_MO_put_42 rfl rfl ?_
        refine j_iconst F (v := 1) d_MO_put_43 (by decide) ?_
        refine j_callV F 1 (c_MO_fail hl S1.1 1) (so_h S1.1) rfl wl_MO_39 wim_MO_fail wse_MO_fail wi_MO wco_MO_fail (by decide +kernel) (by decide) rfl rfl (Nat.le_of_ble_eq_true rfl) (by decide) (by decide) d_MO_put_44 (fun E M1 hx => hx.elim) (fun r M1 hp => ?_)
        obtain ⟨rfl, W1⟩ := hp
        exact j_iret F hr (Nat.le_refl _) (Nat.le_refl _) ⟨rfl, ⟨ok1, ok2, ok3, ok4, ok5⟩, tf, kf, lf, mf, pf, sf, mw_tr S1 W1, hT, hbt, hbk, hR⟩ d_MO_put_47
      · skip
        refine j_iload_n F d_MO_put_26 rfl rfl ?_
        refine j_iconst F (v := -1) d_MO_put_27 (by decide) ?_
        refine j_icmp_lt F (tgt := 42) d_MO_put_28 (by decide) (fun h4 => ?_) (fun h4 => ?_)
        · skip
          have e0 : sp_put mm pp zz σ = (1, 0, σ) := if_pos ((pu_badE _ _ _ _).mpr (Or.inr (Or.inl (h4))))
          rw [e0]
          refine j_aload_n F d_MO_put_42 rfl rfl ?_
          refine j_iconst F (v := 1) d_MO_put_43 (by decide) ?_
          refine j_callV F 1 (c_MO_fail hl S1.1 1) (so_h S1.1) rfl wl_MO_39 wim_MO_fail wse_MO_fail wi_MO wco_MO_fail (by decide +kernel) (by decide) rfl rfl (Nat.le_of_ble_eq_true rfl) (by decide) (by decide) d_MO_put_44 (fun E M1 hx => hx.elim) (fun r M1 hp => ?_)
          obtain ⟨rfl, W1⟩ := hp
          exact j_iret F hr (Nat.le_refl _) (Nat.le_refl _) ⟨rfl, ⟨ok1, ok2, ok3, ok4, ok5⟩, tf, kf, lf, mf, pf, sf, mw_tr S1 W1, hT, hbt, hbk, hR⟩ d_MO_put_47
        · skip
          refine j_iload_n F d_MO_put_31 rfl rfl ?_
          refine j_if_lt F (tgt := 42) d_MO_put_32 (by decide) (fun h5 => ?_) (fun h5 => ?_)
          · skip
            have e0 : sp_put mm pp zz σ = (1, 0, σ) := if_pos ((pu_badE _ _ _ _).mpr (Or.inr (Or.inr (Or.inl (h5)))))
            rw [e0]
            refine j_aload_n F d_MO_put_42 rfl rfl ?_
            refine j_iconst F (v := 1) d_MO_put_43 (by decide) ?_
            refine j_callV F 1 (c_MO_fail hl S1.1 1) (so_h S1.1) rfl wl_MO_39 wim_MO_fail wse_MO_fail wi_MO wco_MO_fail (by decide +kernel) (by decide) rfl rfl (Nat.le_of_ble_eq_true rfl) (by decide) (by decide) d_MO_put_44 (fun E M1 hx => hx.elim) (fun r M1 hp => ?_)
            obtain ⟨rfl, W1⟩ := hp
            exact j_iret F hr (Nat.le_refl _) (Nat.le_refl _) ⟨rfl, ⟨ok1, ok2, ok3, ok4, ok5⟩, tf, kf, lf, mf, pf, sf, mw_tr S1 W1, hT, hbt, hbk, hR⟩ d_MO_put_47
          · skip
            refine j_iload_n F d_MO_put_35 rfl rfl ?_
            refine j_sipush F (v := 1000) d_MO_put_36 (by decide) ?_
            refine j_icmp_le F (tgt := 48) d_MO_put_39 (by decide) (fun h6 => ?_) (fun h6 => ?_)
            · skip
              have hk1 : 1 ≤ σ.1.length := Nat.not_lt.mp (fun z => h1 ((nI_ltI (b := 1) (by omega) (by decide)).mpr z))
              have hk2 : σ.1.length ≤ 40 := Nat.not_lt.mp (fun z => h2 ((nI_ltI (a := 40) (by decide) (by omega)).mpr z))
              have hnb : ¬ pu_bad mm pp zz σ = true := fun z => by
                rcases (pu_badE _ _ _ _).mp z with z | z | z | z | z | z
                · exact h3 z
                · exact h4 z
                · exact h5 z
                · exact absurd h6 (Int32.not_le.mpr z)
                · omega
                · omega
              have hfl := fi_le σ.2.1 σ.1 mm
              obtain ⟨v, hv⟩ : ∃ v, v = fi σ.2.1 σ.1 mm := ⟨_, rfl⟩
              rw [← hv] at hfl
              refine j_aload_n F d_MO_put_48 rfl rfl ?_
              refine j_get F (so_h S1.1) rfl in_MO 2 (by decide) wf_MO_36 rfl d_MO_put_49 ?_
              refine j_istore F (lv1 := [(4, _), (0, _), (1, _), (2, _), (3, _)]) d_MO_put_52 (by decide) rfl ?_
              refine j_aload_n F d_MO_put_54 rfl rfl ?_
              refine j_iconst F (v := 0) d_MO_put_55 (by decide) ?_
              refine j_put F (so_h S1.1) (sz_h S1.1) rfl in_MO ty_MO ok_MO nm_MO 2 (by decide) wf_MO_36 rfl (ty := .int) (by decide +kernel) rfl rfl (Nat.le_of_ble_eq_true rfl) d_MO_put_56 ?_
              refine j_nmW (P := fun M1 => mo_W G M M1 h ta ke le mo pl si 0 0 (nI σ.2.1.length) (cu_I σ.2.2) tf kf lf mf pf sf) (mw_tl S1 0) (fun M2 S2 => ?_)
              refine j_aload_n F d_MO_put_59 rfl rfl ?_
              refine j_iload F d_MO_put_60 rfl ?_
              refine j_iload_n F d_MO_put_62 rfl rfl ?_
              refine j_callV F 2 (c_MO_before hl S2.1 hR hT (by omega) (mm := mm)) (so_h S2.1) rfl wl_MO_50 wim_MO_before wse_MO_before wi_MO wco_MO_before (by decide +kernel) (by decide) rfl rfl (Nat.le_of_ble_eq_true rfl) (by decide) (by decide) d_MO_put_63 (fun E M1 hx => hx.elim) (fun r M1 hp => ?_)
              obtain ⟨rfl, rfl⟩ := hp
              rw [← hv]
              refine j_istore F (lv1 := [(5, _), (4, _), (0, _), (1, _), (2, _), (3, _)]) d_MO_put_66 (by decide) rfl ?_
              refine j_cut (α := Unit) (fun _ => True) (fun _ => M2) (fun _ => 0) (fun _ => 0) (fun _ => [(5, .int (nI v)), (4, .int (nI σ.1.length)), (0, .ref h), (1, .int mm), (2, .int pp), (3, .int zz)]) 94 (fun _ => [.int (if hit σ.2.1 σ.1 mm then 1 else 0)]) ?_ (fun at94 => ?_)
              · skip
                intro _ _
                refine j_cut (α := mp_T × Int32 × Int32 × List en_T × Option Nat × (Nat → Int32) × (Nat → Int32) × (Nat → Int32) × (Nat → Int32) × (Nat → Int32)) (fun x => v < 161 ∧ mo_W G M x.1 h ta ke le mo pl si 0 0 (nI x.2.2.2.1.length) (cu_I x.2.2.2.2.1) tf x.2.2.2.2.2.1 x.2.2.2.2.2.2.1 x.2.2.2.2.2.2.2.1 x.2.2.2.2.2.2.2.2.1 x.2.2.2.2.2.2.2.2.2 ∧ by_Q x.2.2.2.2.2.1 ∧ (∀ e ∈ x.2.2.2.1, 1 ≤ e.1.length ∧ e.1.length ≤ 40) ∧ (∀ i, x.2.2.2.2.1 = some i → i < x.2.2.2.1.length) ∧ mo_R x.2.2.2.1 x.2.2.2.2.2.2.1 x.2.2.2.2.2.1 x.2.2.2.2.2.2.2.1 (upd x.2.2.2.2.2.2.2.2.1 v pp) (upd x.2.2.2.2.2.2.2.2.2 v zz) ∧ sp_put mm pp zz σ = (0, nI x.2.2.2.1.length, ([], x.2.2.2.1, x.2.2.2.2.1))) (fun x => x.1) (fun _ => 0) (fun _ => 0) (fun x => [(6, .int x.2.1), (5, .int (nI v)), (4, .int (nI σ.1.length)), (0, .ref h), (1, .int mm), (2, .int pp), (3, .int zz)]) 210 (fun _ => []) ?_ (fun at210 => ?_)
                · skip
                  intro x hx
                  obtain ⟨Mx, hi, dum, es1, c1, kf3, lf3, mf3, pf3, sf3⟩ := x
                  obtain ⟨hv1, S3, hb3, hk3, hc3, hR3, e0⟩ := hx
                  dsimp only at S3 hb3 hk3 hc3 hR3 e0 ⊢
                  rw [e0]
                  refine j_aload_n F d_MO_put_210 rfl rfl ?_
                  refine j_get F (so_h S3.1) rfl in_MO 6 (by decide) wf_MO_23 rfl d_MO_put_211 ?_
                  refine j_iload F d_MO_put_214 rfl ?_
                  refine j_iload_n F d_MO_put_216 rfl rfl ?_
                  refine j_iastN F (so_pl S3.1) (sz_pl S3.1) (by omega) (by decide) d_MO_put_217 ?_
                  refine j_nmW (P := fun M1 => mo_W G M M1 h ta ke le mo pl si 0 0 (nI es1.length) (cu_I c1) tf kf3 lf3 mf3 (upd pf3 v pp) sf3) (mw_pf S3 _) (fun M4 S4 => ?_)
                  refine j_aload_n F d_MO_put_218 rfl rfl ?_
                  refine j_get F (so_h S4.1) rfl in_MO 7 (by decide) wf_MO_26 rfl d_MO_put_219 ?_
                  refine j_iload F d_MO_put_222 rfl ?_
                  refine j_iload_n F d_MO_put_224 rfl rfl ?_
                  refine j_iastN F (so_si S4.1) (sz_si S4.1) (by omega) (by decide) d_MO_put_225 ?_
                  refine j_nmW (P := fun M1 => mo_W G M M1 h ta ke le mo pl si 0 0 (nI es1.length) (cu_I c1) tf kf3 lf3 mf3 (upd pf3 v pp) (upd sf3 v zz)) (mw_sf S4 _) (fun M5 S5 => ?_)
                  refine j_aload_n F d_MO_put_226 rfl rfl ?_
                  refine j_get F (so_h S5.1) rfl in_MO 8 (by decide) wf_MO_43 rfl d_MO_put_227 ?_
                  exact j_iret F hr (Nat.le_refl _) (Nat.le_refl _) ⟨rfl, ⟨Nat.zero_le _, fun _ h => (by cases h), hR3.1, hk3, hc3⟩, tf, kf3, lf3, mf3, _, _, S5, tp_nil _, hbt, hb3, hR3⟩ d_MO_put_230
                refine j_istore F (lv1 := [(6, _), (5, _), (4, _), (0, _), (1, _), (2, _), (3, _)]) d_MO_put_94 (by decide) rfl ?_
                refine j_iload F d_MO_put_96 rfl ?_
                refine j_if_ne F (tgt := 117) d_MO_put_98 (by decide) (fun hi1 => ?_) (fun hi1 => ?_)
                · skip
                  have hh : hit σ.2.1 σ.1 mm = true := by
                    cases hq : hit σ.2.1 σ.1 mm with
                    | true => rfl
                    | false => rw [hq] at hi1; exact absurd rfl hi1
                  have hvl : v < σ.2.1.length := by rw [hv]; exact hit_le hh
                  refine j_iload F d_MO_put_117 rfl ?_
                  refine j_if_ne F (tgt := 210) d_MO_put_119 (by decide) (fun hi2 => ?_) (fun hi2 => absurd hi2 hi1)
                  exact at210 (M2, _, 0, pu_set σ.2.1 v pp zz, σ.2.2, kf, lf, mf, pf, sf) ⟨by omega, by dsimp only; rw [set_len]; exact S2, hbk, fun e he => by
                      obtain ⟨e0, h0, h1, -⟩ := set_mem he
                      rw [h1]
                      exact ok4 e0 h0, fun i hi => by rw [set_len]; exact ok5 i hi, mo_R_set v pp zz hR, by
                      dsimp only
                      unfold sp_put
                      rw [if_neg hnb, if_pos hh, set_len, hv]⟩
                · skip
                  have hh : ¬ hit σ.2.1 σ.1 mm = true := fun z => by
                    rw [z] at hi1
                    exact absurd hi1 (by decide)
                  refine j_aload_n F d_MO_put_101 rfl rfl ?_
                  refine j_get F (so_h S2.1) rfl in_MO 8 (by decide) wf_MO_43 rfl d_MO_put_102 ?_
                  refine j_sipush F (v := 160) d_MO_put_105 (by decide) ?_
                  refine j_icmp_ne F (tgt := 117) d_MO_put_108 (by decide) (fun h160 => ?_) (fun h160 => ?_)
                  · skip
                    have hlen : σ.2.1.length < 160 := by
                      have : σ.2.1.length ≠ 160 := fun z => h160 (by rw [z]; rfl)
                      omega
                    have e0 : sp_put mm pp zz σ = (0, nI (σ.2.1.length + 1), ([], pu_ins σ.2.1 v (σ.1, mm, pp, zz), pu_cur v σ.2.2)) := by
                      unfold sp_put
                      rw [if_neg hnb, if_neg hh, if_neg (by omega), hv]
                    refine j_iload F d_MO_put_117 rfl ?_
                    refine j_if_ne F (tgt := 210) d_MO_put_119 (by decide) (fun hi2 => absurd hi1 hi2) (fun hi2 => ?_)
                    refine j_aload_n F d_MO_put_122 rfl rfl ?_
                    refine j_iload F d_MO_put_123 rfl ?_
                    refine j_callV F 1 (c_MO_moveUp hl S2.1 hbk (by omega) hfl) (so_h S2.1) rfl wl_MO_54 wim_MO_moveUp wse_MO_moveUp wi_MO wco_MO_moveUp (by decide +kernel) (by decide) rfl rfl (Nat.le_of_ble_eq_true rfl) (by decide) (by decide) d_MO_put_125 (fun E M1 hx => hx.elim) (fun r M1 hp => ?_)
                    obtain ⟨rfl, kf1, lf1, mf1, pf1, sf1, W3, hb3, hup, hlo⟩ := hp
                    have S3 := mw_tr S2 W3
                    refine j_aload_n F d_MO_put_128 rfl rfl ?_
                    refine j_dup F d_MO_put_129 rfl ?_
                    refine j_get F (so_h S3.1) rfl in_MO 8 (by decide) wf_MO_43 rfl d_MO_put_130 ?_
                    refine j_iconst F (v := 1) d_MO_put_133 (by decide) ?_
                    refine j_iadd F d_MO_put_134 ?_
                    refine j_val (y := nI (σ.2.1.length + 1)) (nI_1 _) ?_
                    refine j_put F (so_h S3.1) (sz_h S3.1) rfl in_MO ty_MO ok_MO nm_MO 8 (by decide) wf_MO_43 rfl (ty := .int) (by decide +kernel) rfl rfl (Nat.le_of_ble_eq_true rfl) d_MO_put_135 ?_
                    refine j_nmW (P := fun M1 => mo_W G M M1 h ta ke le mo pl si 0 0 (nI (σ.2.1.length + 1)) (cu_I σ.2.2) tf kf1 lf1 mf1 pf1 sf1) (mw_sz S3 _) (fun M4 S4 => ?_)
                    refine j_cut (α := mp_T) (fun x => mo_W G M x h ta ke le mo pl si 0 0 (nI (σ.2.1.length + 1)) (cu_I (pu_cur v σ.2.2)) tf kf1 lf1 mf1 pf1 sf1) (fun x => x) (fun _ => 0) (fun _ => 0) (fun _ => [(6, .int (if hit σ.2.1 σ.1 mm then 1 else 0)), (5, .int (nI v)), (4, .int (nI σ.1.length)), (0, .ref h), (1, .int mm), (2, .int pp), (3, .int zz)]) 157 (fun _ => []) ?_ (fun at157 => ?_)
                    · skip
                      intro M5 S5
                      refine j_iconst F (v := 0) d_MO_put_157 (by decide) ?_
                      refine j_istore F (lv1 := [(7, _), (6, _), (5, _), (4, _), (0, _), (1, _), (2, _), (3, _)]) d_MO_put_158 (by decide) rfl ?_
                      refine j_lv (lv1 := [(7, .int (nI 0)), (6, .int (if hit σ.2.1 σ.1 mm then 1 else 0)), (5, .int (nI v)), (4, .int (nI σ.1.length)), (0, .ref h), (1, .int mm), (2, .int pp), (3, .int zz)]) rfl ?_
                      refine j_ind (α := Nat × mp_T) (fun y => σ.1.length - y.1) (fun y => y.2) (fun _ => 0) (fun _ => 0) (fun y => [(7, .int (nI y.1)), (6, .int (if hit σ.2.1 σ.1 mm then 1 else 0)), (5, .int (nI v)), (4, .int (nI σ.1.length)), (0, .ref h), (1, .int mm), (2, .int pp), (3, .int zz)]) (fun _ => []) (fun y => y.1 ≤ σ.1.length ∧ ∃ kf2 : Nat → Int32, mo_W G M y.2 h ta ke le mo pl si 0 0 (nI (σ.2.1.length + 1)) (cu_I (pu_cur v σ.2.2)) tf kf2 lf1 mf1 pf1 sf1 ∧ by_Q kf2 ∧ (∀ c, c < y.1 → kf2 (40 * v + c) = σ.1.getD c 0) ∧ ∀ q, (q < 40 * v ∨ 40 * v + y.1 ≤ q) → kf2 q = kf1 q) ?_ (0, M5) ⟨Nat.zero_le _, kf1, S5, hb3, fun c h1 => absurd h1 (Nat.not_lt_zero _), fun q _ => rfl⟩
                      intro y hy ih
                      obtain ⟨j, My⟩ := y
                      obtain ⟨hj, kf2, S6, hb6, hq1, hq2⟩ := hy
                      dsimp only at hj S6 hq1 hq2 ⊢
                      refine j_iload F d_MO_put_160 rfl ?_
                      refine j_iload F d_MO_put_162 rfl ?_
                      refine j_icmp_ge F (tgt := 193) d_MO_put_164 (by decide) (fun hc7 => ?_) (fun hc7 => ?_)
                      · skip
                        have hje : j = σ.1.length := Nat.le_antisymm hj ((nI_leI (by omega) (by omega)).mp hc7)
                        subst hje
                        refine j_aload_n F d_MO_put_193 rfl rfl ?_
                        refine j_get F (so_h S6.1) rfl in_MO 4 (by decide) wf_MO_16 rfl d_MO_put_194 ?_
                        refine j_iload F d_MO_put_197 rfl ?_
                        refine j_iload F d_MO_put_199 rfl ?_
                        refine j_iastN F (so_le S6.1) (sz_le S6.1) (by omega) (by decide) d_MO_put_201 ?_
                        refine j_nmW (P := fun M1 => mo_W G M M1 h ta ke le mo pl si 0 0 (nI (σ.2.1.length + 1)) (cu_I (pu_cur v σ.2.2)) tf kf2 (upd lf1 v (nI σ.1.length)) mf1 pf1 sf1) (mw_lf S6 _) (fun M7 S7 => ?_)
                        refine j_aload_n F d_MO_put_202 rfl rfl ?_
                        refine j_get F (so_h S7.1) rfl in_MO 5 (by decide) wf_MO_20 rfl d_MO_put_203 ?_
                        refine j_iload F d_MO_put_206 rfl ?_
                        refine j_iload_n F d_MO_put_208 rfl rfl ?_
                        refine j_iastN F (so_mo S7.1) (sz_mo S7.1) (by omega) (by decide) d_MO_put_209 ?_
                        refine j_nmW (P := fun M1 => mo_W G M M1 h ta ke le mo pl si 0 0 (nI (σ.2.1.length + 1)) (cu_I (pu_cur v σ.2.2)) tf kf2 (upd lf1 v (nI σ.1.length)) (upd mf1 v mm) pf1 sf1) (mw_mf S7 _) (fun M8 S8 => ?_)
                        refine j_sub [1, 2, 3, 4, 5, 6, 7] rfl ?_
                        exact at210 (M8, _, 0, pu_ins σ.2.1 v (σ.1, mm, pp, zz), pu_cur v σ.2.2, kf2, upd lf1 v (nI σ.1.length), upd mf1 v mm, pf1, sf1) ⟨by omega, by dsimp only; rw [ins_len hfl]; exact S8, hb6, fun e he => by
                            rcases ins_mem he with z | z
                            · rw [z]; exact ⟨hk1, hk2⟩
                            · exact ok4 e z, fun i hi => by dsimp only; rw [ins_len hfl]; exact pu_cl ok5 i hi, mo_R_ins (x := (σ.1, mm, pp, zz)) hR hfl hlen hk1 hk2 hup hlo hq1 hq2, by dsimp only; rw [e0, ins_len hfl]⟩
                      · skip
                        have hjl : j < σ.1.length := Nat.not_le.mp (fun z => hc7 ((nI_leI (by omega) (by omega)).mpr z))
                        refine j_aload_n F d_MO_put_167 rfl rfl ?_
                        refine j_get F (so_h S6.1) rfl in_MO 3 (by decide) wf_MO_13 rfl d_MO_put_168 ?_
                        refine j_bipush F (v := 40) d_MO_put_171 (by decide) ?_
                        refine j_iload F d_MO_put_173 rfl ?_
                        refine j_imul F d_MO_put_175 ?_
                        refine j_iload F d_MO_put_176 rfl ?_
                        refine j_iadd F d_MO_put_178 ?_
                        refine j_val (y := nI (40 * v + j)) (ix_40 v j) ?_
                        refine j_aload_n F d_MO_put_179 rfl rfl ?_
                        refine j_get F (so_h S6.1) rfl in_MO 1 (by decide) wf_MO_7 rfl d_MO_put_180 ?_
                        refine j_iload F d_MO_put_183 rfl ?_
                        refine j_baldN F (so_ta S6.1) (by omega) (by decide) d_MO_put_185 ?_
                        refine j_bastN F (so_ke S6.1) (sz_ke S6.1) (by omega) (by decide) (hbt _) d_MO_put_186 ?_
                        refine j_nmW (P := fun M1 => mo_W G M M1 h ta ke le mo pl si 0 0 (nI (σ.2.1.length + 1)) (cu_I (pu_cur v σ.2.2)) tf (upd kf2 (40 * v + j) (tf j)) lf1 mf1 pf1 sf1) (mw_kf S6 _) (fun M7 S7 => ?_)
                        refine j_iinc F (lv1 := [(7, _), (6, _), (5, _), (4, _), (0, _), (1, _), (2, _), (3, _)]) d_MO_put_187 rfl (nI_1 _) (by decide) rfl ?_
                        refine j_goto F (tgt := 160) d_MO_put_190 (by decide) ?_
                        refine ih (j + 1, M7) ⟨hjl, _, S7, by_upd hb6 (hbt _), ?_, ?_⟩ (by dsimp only; omega)
                        · intro c hc9
                          dsimp only at hc9
                          by_cases hcj : c = j
                          · subst hcj
                            rw [pk_us, hT c hjl]
                          · rw [pk_un (by omega), hq1 c (by omega)]
                        · intro q hq
                          dsimp only at hq
                          rw [pk_un (by omega), hq2 q (by omega)]
                    cases hcur : σ.2.2 with
                    | none =>
                      rw [hcur] at S4 at157
                      refine j_aload_n F d_MO_put_138 rfl rfl ?_
                      refine j_get F (so_h S4.1) rfl in_MO 9 (by decide) wf_MO_29 rfl d_MO_put_139 ?_
                      refine j_iload F d_MO_put_142 rfl ?_
                      refine j_icmp_lt F (tgt := 157) d_MO_put_144 (by decide) (fun ha => ?_) (fun ha => absurd (Int32.lt_of_lt_of_le (show (-1 : Int32) < 0 by decide) (nI_pos' (by omega))) ha)
                      exact at157 M4 S4
                    | some cc0 =>
                      have hcl := ok5 cc0 hcur
                      rw [hcur] at S4 at157
                      refine j_aload_n F d_MO_put_138 rfl rfl ?_
                      refine j_get F (so_h S4.1) rfl in_MO 9 (by decide) wf_MO_29 rfl d_MO_put_139 ?_
                      refine j_iload F d_MO_put_142 rfl ?_
                      refine j_icmp_lt F (tgt := 157) d_MO_put_144 (by decide) (fun ha => ?_) (fun ha => ?_)
                      · skip
                        have hlt : cc0 < v := (nI_ltI (by omega) (by omega)).mp ha
                        have hpc : pu_cur v (some cc0) = some cc0 := by simp only [pu_cur, Option.map_some]; rw [if_neg (by omega)]
                        rw [hpc] at at157
                        exact at157 M4 S4
                      · skip
                        have hge : v ≤ cc0 := Nat.not_lt.mp (fun z => ha ((nI_ltI (by omega) (by omega)).mpr z))
                        have hpc : pu_cur v (some cc0) = some (cc0 + 1) := by simp only [pu_cur, Option.map_some]; rw [if_pos hge]
                        rw [hpc] at at157
                        refine j_aload_n F d_MO_put_147 rfl rfl ?_
                        refine j_dup F d_MO_put_148 rfl ?_
                        refine j_get F (so_h S4.1) rfl in_MO 9 (by decide) wf_MO_29 rfl d_MO_put_149 ?_
                        refine j_iconst F (v := 1) d_MO_put_152 (by decide) ?_
                        refine j_iadd F d_MO_put_153 ?_
                        refine j_val (y := nI (cc0 + 1)) (nI_1 _) ?_
                        refine j_put F (so_h S4.1) (sz_h S4.1) rfl in_MO ty_MO ok_MO nm_MO 9 (by decide) wf_MO_29 rfl (ty := .int) (by decide +kernel) rfl rfl (Nat.le_of_ble_eq_true rfl) d_MO_put_154 ?_
                        refine j_nmW (P := fun M1 => mo_W G M M1 h ta ke le mo pl si 0 0 (nI (σ.2.1.length + 1)) (nI (cc0 + 1)) tf kf1 lf1 mf1 pf1 sf1) (mw_ap S4 _) (fun M5 S5 => ?_)
                        exact at157 M5 S5
                  · skip
                    have hlen : σ.2.1.length = 160 := (nI_eq (b := 160) (by omega) (by decide)).mp h160
                    have e0 : sp_put mm pp zz σ = (2, 0, ([], σ.2)) := by
                      unfold sp_put
                      rw [if_neg hnb, if_neg hh, if_pos hlen]
                    rw [e0]
                    refine j_aload_n F d_MO_put_111 rfl rfl ?_
                    refine j_iconst F (v := 2) d_MO_put_112 (by decide) ?_
                    refine j_callV F 1 (c_MO_fail hl S2.1 2) (so_h S2.1) rfl wl_MO_39 wim_MO_fail wse_MO_fail wi_MO wco_MO_fail (by decide +kernel) (by decide) rfl rfl (Nat.le_of_ble_eq_true rfl) (by decide) (by decide) d_MO_put_113 (fun E M1 hx => hx.elim) (fun r M1 hp => ?_)
                    obtain ⟨rfl, W1⟩ := hp
                    exact j_iret F hr (Nat.le_refl _) (Nat.le_refl _) ⟨rfl, ⟨Nat.zero_le _, fun _ h => (by cases h), ok3, ok4, ok5⟩, tf, kf, lf, mf, pf, sf, mw_tr S2 W1, tp_nil _, hbt, hbk, hR⟩ d_MO_put_116
              refine j_iload F d_MO_put_68 rfl ?_
              refine j_aload_n F d_MO_put_70 rfl rfl ?_
              refine j_get F (so_h S2.1) rfl in_MO 8 (by decide) wf_MO_43 rfl d_MO_put_71 ?_
              refine j_icmp_ge F (tgt := 93) d_MO_put_74 (by decide) (fun hc7 => ?_) (fun hc7 => ?_)
              · skip
                have h0 : σ.2.1.length ≤ v := (nI_leI (by omega) (by omega)).mp hc7
                have hno : hit σ.2.1 σ.1 mm = false := hit_no (by rw [← hv]; exact h0)
                rw [hno] at at94
                refine j_iconst F (v := 0) d_MO_put_93 (by decide) ?_
                exact at94 () trivial
              · skip
                have h0 : v < σ.2.1.length := Nat.not_le.mp (fun z => hc7 ((nI_leI (by omega) (by omega)).mpr z))
                obtain ⟨e1, he1⟩ : ∃ e1, σ.2.1[v]? = some e1 := ⟨_, List.getElem?_eq_getElem h0⟩
                obtain ⟨hE, -, h40⟩ := hR.2 _ e1 he1
                have hho := hit_of (es := σ.2.1) (k := σ.1) (m := mm) (e := e1) (by rw [← hv]; exact he1)
                refine j_aload_n F d_MO_put_77 rfl rfl ?_
                refine j_iload F d_MO_put_78 rfl ?_
                refine j_iload F d_MO_put_80 rfl ?_
                refine j_iload_n F d_MO_put_82 rfl rfl ?_
                refine j_callV F 3 (c_MO_compare hl S2.1 (by omega) hE hT h40 (by omega) (mm := mm)) (so_h S2.1) rfl wl_MO_46 wim_MO_compare wse_MO_compare wi_MO wco_MO_compare (by decide +kernel) (by decide) rfl rfl (Nat.le_of_ble_eq_true rfl) (by decide) (by decide) d_MO_put_83 (fun E M1 hx => hx.elim) (fun r M1 hp => ?_)
                obtain ⟨rfl, d, rfl, -, hd2⟩ := hp
                refine j_if_ne F (tgt := 93) d_MO_put_86 (by decide) (fun hc8 => ?_) (fun hc8 => ?_)
                · skip
                  have hno : hit σ.2.1 σ.1 mm = false := by
                    cases hq : hit σ.2.1 σ.1 mm with
                    | false => rfl
                    | true => exact absurd (hd2.mpr (hho.mp hq)) hc8
                  rw [hno] at at94
                  refine j_iconst F (v := 0) d_MO_put_93 (by decide) ?_
                  exact at94 () trivial
                · skip
                  have hyes : hit σ.2.1 σ.1 mm = true := hho.mpr (hd2.mp hc8)
                  rw [hyes] at at94
                  refine j_iconst F (v := 1) d_MO_put_89 (by decide) ?_
                  refine j_goto F (tgt := 94) d_MO_put_90 (by decide) ?_
                  exact at94 () trivial
            · skip
              have e0 : sp_put mm pp zz σ = (1, 0, σ) := if_pos ((pu_badE _ _ _ _).mpr (Or.inr (Or.inr (Or.inr (Or.inl (Int32.not_le.mp h6))))))
              rw [e0]
              refine j_aload_n F d_MO_put_42 rfl rfl ?_
              refine j_iconst F (v := 1) d_MO_put_43 (by decide) ?_
              refine j_callV F 1 (c_MO_fail hl S1.1 1) (so_h S1.1) rfl wl_MO_39 wim_MO_fail wse_MO_fail wi_MO wco_MO_fail (by decide +kernel) (by decide) rfl rfl (Nat.le_of_ble_eq_true rfl) (by decide) (by decide) d_MO_put_44 (fun E M1 hx => hx.elim) (fun r M1 hp => ?_)
              obtain ⟨rfl, W1⟩ := hp
              exact j_iret F hr (Nat.le_refl _) (Nat.le_refl _) ⟨rfl, ⟨ok1, ok2, ok3, ok4, ok5⟩, tf, kf, lf, mf, pf, sf, mw_tr S1 W1, hT, hbt, hbk, hR⟩ d_MO_put_47
end MO6
end
section
/-- an object h with e0, and cells K that came new since M0 -/
def kn_2 (G : gv_T) (M0 M : mp_T) (h : Nat) (e0 : va_E) (K : List (Nat × va_E)) : Prop := M h = some e0 ∧ (∀ x ∈ K, M x.1 = some x.2 ∧ x.1 ≠ h ∧ G.2.2.1 ≤ x.1 ∧ M0 x.1 = none) ∧ (K.map (fun x => x.1)).Nodup ∧ ∀ q e, q ≠ h → M0 q = some e → M q = some e
theorem kn_rf {G : gv_T} {M : mp_T} {h : Nat} {e0 : va_E} (hh : M h = some e0) : kn_2 G M M h e0 [] := ⟨hh, fun x hx => (by cases hx), List.nodup_nil, fun _ _ _ h => h⟩
theorem kn_new {G : gv_T} {M0 M : mp_T} {h a : Nat} {e0 e : va_E} {K : List (Nat × va_E)} (S : kn_2 G M0 M h e0 K) (hz : G.2.2.1 ≤ a) (ha : M a = none) : kn_2 G M0 (mp_U M a e) h e0 ((a, e) :: K) := by
  obtain ⟨h1, h2, h3, h4⟩ := S
  have hah : a ≠ h := fun z => by rw [z, h1] at ha; cases ha
  have hK : ∀ x ∈ K, x.1 ≠ a := fun x hx z => by rw [← z, (h2 x hx).1] at ha; cases ha
  refine ⟨(mp_Un (Ne.symm hah)).trans h1, fun x hx => ?_, ?_, fun q e1 hq he => ?_⟩
  · rcases List.mem_cons.mp hx with z | z
    · subst z
      refine ⟨mp_Us _ _ _, hah, hz, ?_⟩
      cases h0 : M0 a with
      | none => rfl
      | some e9 => rw [h4 a e9 hah h0] at ha; cases ha
    · obtain ⟨q1, q2, q3, q4⟩ := h2 x z
      exact ⟨(mp_Un (hK x z)).trans q1, q2, q3, q4⟩
  · rw [List.map_cons, List.nodup_cons]
    refine ⟨fun z => ?_, h3⟩
    obtain ⟨x, hx, hxa⟩ := List.mem_map.mp z
    exact hK x hx hxa
  · have h9 := h4 q e1 hq he
    exact (mp_Un (fun z => by rw [z, ha] at h9; cases h9)).trans h9
theorem kn_set {G : gv_T} {M0 M : mp_T} {h : Nat} {e0 e : va_E} {K : List (Nat × va_E)} (S : kn_2 G M0 M h e0 K) : kn_2 G M0 (mp_U M h e) h e K := by
  obtain ⟨h1, h2, h3, h4⟩ := S
  exact ⟨mp_Us _ _ _, fun x hx => ⟨(mp_Un (h2 x hx).2.1).trans (h2 x hx).1, (h2 x hx).2⟩, h3, fun q e1 hq he => (mp_Un hq).trans (h4 q e1 hq he)⟩
theorem by_0 : by_Q (fun _ => 0) := fun _ => (by decide : vp_nar .byte 0 = 0)
section MO7
variable {es : List en_T} {σ : sg_T} {l : Launch} {G : gv_T} {M M0 : mp_T} {h ta ke le mo pl si : Nat} {fa tl sz ap : Int32} {tf kf lf mf pf sf : Nat → Int32}
def mo_I : va_E := .inr (3, [.int 0, .null, .int 0, .null, .null, .null, .null, .null, .int 0, .int 0])
set_option maxHeartbeats 4000000 in
set_option maxRecDepth 100000 in
theorem c_MO_init (hl : l.stackTraces = false) (hh : M h = some mo_I) (hz : G.2.2.1 ≤ h) : cn_C l G y_MO_init b_MO_init 1 { frames := 1, cells := 6, slots := 7144, locals := 20 } [.ref h] M (fun r M1 => r = none ∧ ∃ (ta ke le mo pl si : Nat), mo_A G M1 M1 h ta ke le mo pl si 0 ([], [], none) ∧ (∀ q ∈ [ta, ke, le, mo, pl, si], M q = none) ∧ ∀ q e, q ≠ h → M q = some e → M1 q = some e) := by
  refine cn_of hl (by decide +kernel) (Nat.le_of_ble_eq_true rfl) ?_
  intro p e s m args below meth c F hr hnm
  refine j_aload_n F d_MO_init_0 rfl rfl ?_
  refine j_obj F wl_MO_1 wim_JO_init wco_JO_init (by decide) (Nat.le_of_ble_eq_true rfl) d_MO_init_1 ?_
  have K0 : kn_2 G M M h mo_I [] := kn_rf hh
  refine j_aload_n F d_MO_init_4 rfl rfl ?_
  refine j_bipush F (v := 60) d_MO_init_5 (by decide) ?_
  refine j_newb F wa_byte (len := 60) (by decide) (by decide) (by decide) (by decide) (by decide) d_MO_init_7 (fun ta z_ta n_ta => ?_)
  refine j_nmW (P := fun M1 => kn_2 G M M1 h (.inr (3, [.int 0, .null, .int 0, .null, .null, .null, .null, .null, .int 0, .int 0])) [(ta, .inl (G.2.1.1, 60, .inl (fun _ => 0)))]) (kn_new K0 z_ta n_ta) (fun M1 K1 => ?_)
  refine j_putF F K1.1 hz rfl in_MO ty_MO ok_MO nm_MO 1 (by decide) wf_MO_7 rfl hnm rfl (ty := .array .byte) (by decide +kernel) rfl rfl (Nat.le_of_ble_eq_true rfl) d_MO_init_9 ?_
  refine j_nmW (P := fun M1 => kn_2 G M M1 h (.inr (3, [.int 0, .ref ta, .int 0, .null, .null, .null, .null, .null, .int 0, .int 0])) [(ta, .inl (G.2.1.1, 60, .inl (fun _ => 0)))]) (kn_set K1) (fun M2 K2 => ?_)
  refine j_aload_n F d_MO_init_12 rfl rfl ?_
  refine j_sipush F (v := 6440) d_MO_init_13 (by decide) ?_
  refine j_newb F wa_byte (len := 6440) (by decide) (by decide) (by decide) (by decide) (by decide) d_MO_init_16 (fun ke z_ke n_ke => ?_)
  refine j_nmW (P := fun M1 => kn_2 G M M1 h (.inr (3, [.int 0, .ref ta, .int 0, .null, .null, .null, .null, .null, .int 0, .int 0])) [(ke, .inl (G.2.1.1, 6440, .inl (fun _ => 0))), (ta, .inl (G.2.1.1, 60, .inl (fun _ => 0)))]) (kn_new K2 z_ke n_ke) (fun M3 K3 => ?_)
  refine j_putF F K3.1 hz rfl in_MO ty_MO ok_MO nm_MO 3 (by decide) wf_MO_13 rfl hnm rfl (ty := .array .byte) (by decide +kernel) rfl rfl (Nat.le_of_ble_eq_true rfl) d_MO_init_18 ?_
  refine j_nmW (P := fun M1 => kn_2 G M M1 h (.inr (3, [.int 0, .ref ta, .int 0, .ref ke, .null, .null, .null, .null, .int 0, .int 0])) [(ke, .inl (G.2.1.1, 6440, .inl (fun _ => 0))), (ta, .inl (G.2.1.1, 60, .inl (fun _ => 0)))]) (kn_set K3) (fun M4 K4 => ?_)
  refine j_aload_n F d_MO_init_21 rfl rfl ?_
  refine j_sipush F (v := 161) d_MO_init_22 (by decide) ?_
  refine j_newi F wa_int (len := 161) (by decide) (by decide) (by decide) (by decide) (by decide) d_MO_init_25 (fun le z_le n_le => ?_)
  refine j_nmW (P := fun M1 => kn_2 G M M1 h (.inr (3, [.int 0, .ref ta, .int 0, .ref ke, .null, .null, .null, .null, .int 0, .int 0])) [(le, .inl (G.2.1.2.1, 161, .inl (fun _ => 0))), (ke, .inl (G.2.1.1, 6440, .inl (fun _ => 0))), (ta, .inl (G.2.1.1, 60, .inl (fun _ => 0)))]) (kn_new K4 z_le n_le) (fun M5 K5 => ?_)
  refine j_putF F K5.1 hz rfl in_MO ty_MO ok_MO nm_MO 4 (by decide) wf_MO_16 rfl hnm rfl (ty := .array .int) (by decide +kernel) rfl rfl (Nat.le_of_ble_eq_true rfl) d_MO_init_27 ?_
  refine j_nmW (P := fun M1 => kn_2 G M M1 h (.inr (3, [.int 0, .ref ta, .int 0, .ref ke, .ref le, .null, .null, .null, .int 0, .int 0])) [(le, .inl (G.2.1.2.1, 161, .inl (fun _ => 0))), (ke, .inl (G.2.1.1, 6440, .inl (fun _ => 0))), (ta, .inl (G.2.1.1, 60, .inl (fun _ => 0)))]) (kn_set K5) (fun M6 K6 => ?_)
  refine j_aload_n F d_MO_init_30 rfl rfl ?_
  refine j_sipush F (v := 161) d_MO_init_31 (by decide) ?_
  refine j_newi F wa_int (len := 161) (by decide) (by decide) (by decide) (by decide) (by decide) d_MO_init_34 (fun mo z_mo n_mo => ?_)
  refine j_nmW (P := fun M1 => kn_2 G M M1 h (.inr (3, [.int 0, .ref ta, .int 0, .ref ke, .ref le, .null, .null, .null, .int 0, .int 0])) [(mo, .inl (G.2.1.2.1, 161, .inl (fun _ => 0))), (le, .inl (G.2.1.2.1, 161, .inl (fun _ => 0))), (ke, .inl (G.2.1.1, 6440, .inl (fun _ => 0))), (ta, .inl (G.2.1.1, 60, .inl (fun _ => 0)))]) (kn_new K6 z_mo n_mo) (fun M7 K7 => ?_)
  refine j_putF F K7.1 hz rfl in_MO ty_MO ok_MO nm_MO 5 (by decide) wf_MO_20 rfl hnm rfl (ty := .array .int) (by decide +kernel) rfl rfl (Nat.le_of_ble_eq_true rfl) d_MO_init_36 ?_
  refine j_nmW (P := fun M1 => kn_2 G M M1 h (.inr (3, [.int 0, .ref ta, .int 0, .ref ke, .ref le, .ref mo, .null, .null, .int 0, .int 0])) [(mo, .inl (G.2.1.2.1, 161, .inl (fun _ => 0))), (le, .inl (G.2.1.2.1, 161, .inl (fun _ => 0))), (ke, .inl (G.2.1.1, 6440, .inl (fun _ => 0))), (ta, .inl (G.2.1.1, 60, .inl (fun _ => 0)))]) (kn_set K7) (fun M8 K8 => ?_)
  refine j_aload_n F d_MO_init_39 rfl rfl ?_
  refine j_sipush F (v := 161) d_MO_init_40 (by decide) ?_
  refine j_newi F wa_int (len := 161) (by decide) (by decide) (by decide) (by decide) (by decide) d_MO_init_43 (fun pl z_pl n_pl => ?_)
  refine j_nmW (P := fun M1 => kn_2 G M M1 h (.inr (3, [.int 0, .ref ta, .int 0, .ref ke, .ref le, .ref mo, .null, .null, .int 0, .int 0])) [(pl, .inl (G.2.1.2.1, 161, .inl (fun _ => 0))), (mo, .inl (G.2.1.2.1, 161, .inl (fun _ => 0))), (le, .inl (G.2.1.2.1, 161, .inl (fun _ => 0))), (ke, .inl (G.2.1.1, 6440, .inl (fun _ => 0))), (ta, .inl (G.2.1.1, 60, .inl (fun _ => 0)))]) (kn_new K8 z_pl n_pl) (fun M9 K9 => ?_)
  refine j_putF F K9.1 hz rfl in_MO ty_MO ok_MO nm_MO 6 (by decide) wf_MO_23 rfl hnm rfl (ty := .array .int) (by decide +kernel) rfl rfl (Nat.le_of_ble_eq_true rfl) d_MO_init_45 ?_
  refine j_nmW (P := fun M1 => kn_2 G M M1 h (.inr (3, [.int 0, .ref ta, .int 0, .ref ke, .ref le, .ref mo, .ref pl, .null, .int 0, .int 0])) [(pl, .inl (G.2.1.2.1, 161, .inl (fun _ => 0))), (mo, .inl (G.2.1.2.1, 161, .inl (fun _ => 0))), (le, .inl (G.2.1.2.1, 161, .inl (fun _ => 0))), (ke, .inl (G.2.1.1, 6440, .inl (fun _ => 0))), (ta, .inl (G.2.1.1, 60, .inl (fun _ => 0)))]) (kn_set K9) (fun M10 K10 => ?_)
  refine j_aload_n F d_MO_init_48 rfl rfl ?_
  refine j_sipush F (v := 161) d_MO_init_49 (by decide) ?_
  refine j_newi F wa_int (len := 161) (by decide) (by decide) (by decide) (by decide) (by decide) d_MO_init_52 (fun si z_si n_si => ?_)
  refine j_nmW (P := fun M1 => kn_2 G M M1 h (.inr (3, [.int 0, .ref ta, .int 0, .ref ke, .ref le, .ref mo, .ref pl, .null, .int 0, .int 0])) [(si, .inl (G.2.1.2.1, 161, .inl (fun _ => 0))), (pl, .inl (G.2.1.2.1, 161, .inl (fun _ => 0))), (mo, .inl (G.2.1.2.1, 161, .inl (fun _ => 0))), (le, .inl (G.2.1.2.1, 161, .inl (fun _ => 0))), (ke, .inl (G.2.1.1, 6440, .inl (fun _ => 0))), (ta, .inl (G.2.1.1, 60, .inl (fun _ => 0)))]) (kn_new K10 z_si n_si) (fun M11 K11 => ?_)
  refine j_putF F K11.1 hz rfl in_MO ty_MO ok_MO nm_MO 7 (by decide) wf_MO_26 rfl hnm rfl (ty := .array .int) (by decide +kernel) rfl rfl (Nat.le_of_ble_eq_true rfl) d_MO_init_54 ?_
  refine j_nmW (P := fun M1 => kn_2 G M M1 h (.inr (3, [.int 0, .ref ta, .int 0, .ref ke, .ref le, .ref mo, .ref pl, .ref si, .int 0, .int 0])) [(si, .inl (G.2.1.2.1, 161, .inl (fun _ => 0))), (pl, .inl (G.2.1.2.1, 161, .inl (fun _ => 0))), (mo, .inl (G.2.1.2.1, 161, .inl (fun _ => 0))), (le, .inl (G.2.1.2.1, 161, .inl (fun _ => 0))), (ke, .inl (G.2.1.1, 6440, .inl (fun _ => 0))), (ta, .inl (G.2.1.1, 60, .inl (fun _ => 0)))]) (kn_set K11) (fun M12 K12 => ?_)
  refine j_aload_n F d_MO_init_57 rfl rfl ?_
  refine j_iconst F (v := -1) d_MO_init_58 (by decide) ?_
  refine j_put F K12.1 hz rfl in_MO ty_MO ok_MO nm_MO 9 (by decide) wf_MO_29 rfl (ty := .int) (by decide +kernel) rfl rfl (Nat.le_of_ble_eq_true rfl) d_MO_init_59 ?_
  refine j_nmW (P := fun M1 => kn_2 G M M1 h (.inr (3, [.int 0, .ref ta, .int 0, .ref ke, .ref le, .ref mo, .ref pl, .ref si, .int 0, .int (-1)])) [(si, .inl (G.2.1.2.1, 161, .inl (fun _ => 0))), (pl, .inl (G.2.1.2.1, 161, .inl (fun _ => 0))), (mo, .inl (G.2.1.2.1, 161, .inl (fun _ => 0))), (le, .inl (G.2.1.2.1, 161, .inl (fun _ => 0))), (ke, .inl (G.2.1.1, 6440, .inl (fun _ => 0))), (ta, .inl (G.2.1.1, 60, .inl (fun _ => 0)))]) (kn_set K12) (fun M13 K13 => ?_)
  obtain ⟨q1, q2, q3, q4⟩ := K13
  simp only [List.mem_cons, List.not_mem_nil, or_false, forall_eq_or_imp, forall_eq] at q2
  obtain ⟨⟨a1, a2, a3, a4⟩, ⟨b1, b2, b3, b4⟩, ⟨c1, c2, c3, c4⟩, ⟨d1, d2, d3, d4⟩, ⟨e1, e2, e3, e4⟩, ⟨f1, f2, f3, f4⟩⟩ := q2
  simp only [List.map_cons, List.map_nil, List.nodup_cons, List.mem_cons, not_or, List.not_mem_nil, or_false, not_false_eq_true, and_true, List.nodup_nil] at q3
  obtain ⟨⟨s1, s2, s3, s4, s5⟩, ⟨s6, s7, s8, s9⟩, ⟨t1, t2, t3⟩, ⟨t4, t5⟩, t6⟩ := q3
  refine j_cret F hr (Nat.le_of_ble_eq_true rfl) (Nat.le_of_ble_eq_true rfl) ⟨rfl, ta, ke, le, mo, pl, si, ⟨⟨Nat.zero_le _, fun _ h => (by cases h), Nat.zero_le _, fun _ h => (by cases h), fun _ h => (by cases h)⟩, _, _, _, _, _, _, ⟨⟨q1, f1, e1, d1, c1, b1, a1, ?_, ?_⟩, fun _ _ => rfl⟩, tp_nil _, by_0, by_0, mo_R0 _ _ _ _ _⟩, ?_, q4⟩ d_MO_init_62
  · simp only [List.mem_cons, List.not_mem_nil, or_false, forall_eq_or_imp, forall_eq]
    exact ⟨hz, f3, e3, d3, c3, b3, a3⟩
  · simp only [List.nodup_cons, List.mem_cons, not_or, List.not_mem_nil, or_false, not_false_eq_true, and_true, List.nodup_nil]
    exact ⟨⟨Ne.symm f2, Ne.symm e2, Ne.symm d2, Ne.symm c2, Ne.symm b2, Ne.symm a2⟩, ⟨Ne.symm t6, Ne.symm t5, Ne.symm t3, Ne.symm s9, Ne.symm s5⟩, ⟨Ne.symm t4, Ne.symm t2, Ne.symm s8, Ne.symm s4⟩, ⟨Ne.symm t1, Ne.symm s7, Ne.symm s3⟩, ⟨Ne.symm s6, Ne.symm s2⟩, Ne.symm s1⟩
  · simp only [List.mem_cons, List.not_mem_nil, or_false, forall_eq_or_imp, forall_eq]
    exact ⟨f4, e4, d4, c4, b4, a4⟩
end MO7
end
section
/-! ===== the subject: what its cells are when it holds a state ===== -/
abbrev no_T : Type := Nat × Nat × en_T
/-- a version's cell -/
def vE (ka : Nat) (e : en_T) (ht : Int32) (l r : Option Nat) : va_E := .inr (2, [.ref ka, .int e.2.1, .int e.2.2.1, .int e.2.2.2, .int ht, va_rf l, va_rf r])
/-- an array that holds the key k -/
def ky (G : gv_T) (M : mp_T) (ka : Nat) (k : ke_T) : Prop := ∃ kf : Nat → Int32, M ka = some (.inl (G.2.1.1, k.length, .inl kf)) ∧ tp_R k kf
/-- a balanced tree of height h, no deeper than the first number; its versions in their order -/
def tr (G : gv_T) (M : mp_T) : Nat → Option Nat → List no_T → Nat → Prop
  | _, none, L, h => L = [] ∧ h = 0
  | 0, some _, _, _ => False
  | d + 1, some a, L, h => ∃ (ka : Nat) (e : en_T) (l r : Option Nat) (Ll Lr : List no_T) (hl hr : Nat), M a = some (vE ka e (nI h) l r) ∧ ky G M ka e.1 ∧ tr G M d l Ll hl ∧ tr G M d r Lr hr ∧ L = Ll ++ (a, ka, e) :: Lr ∧ h = max hl hr + 1 ∧ hl ≤ hr + 1 ∧ hr ≤ hl + 1
/-- the versions are in order -/
def srt (es : List en_T) : Prop := es.Pairwise (fun a b => oc a b.1 b.2.1 < 0)
/-- the object x of the subject holds the state σ; none of its cells is in B -/
def cl_A (G : gv_T) (M : mp_T) (B : Nat → Prop) (x : Nat) (σ : sg_T) : Prop := ∃ (ta tt : Nat) (root : Option Nat) (L : List no_T) (tf : Nat → Int32) (h : Nat),
  M x = some (.inr (0, [.ref ta, .int (nI σ.1.length), .ref tt, va_rf (σ.2.2.bind (fun c => (L[c]?).map (fun y => y.1)))])) ∧ M ta = some (.inl (G.2.1.1, 60, .inl tf)) ∧ M tt = some (.inr (1, [va_rf root, .int (nI σ.2.1.length)])) ∧
  tr G M h root L h ∧ L.map (fun y => y.2.2) = σ.2.1 ∧ srt σ.2.1 ∧ (L.map (fun y => y.1)).Nodup ∧ (∀ y ∈ L, y.2.1 ≠ ta ∧ G.2.2.1 ≤ y.1 ∧ ¬ B y.1 ∧ ¬ B y.2.1) ∧ (G.2.2.1 ≤ x ∧ G.2.2.1 ≤ ta ∧ G.2.2.1 ≤ tt) ∧ (¬ B x ∧ ¬ B ta ∧ ¬ B tt) ∧ tp_R σ.1 tf ∧ by_Q tf ∧ sg_ok σ
theorem ky_mono {G : gv_T} {M M1 : mp_T} {ka : Nat} {k : ke_T} (h : ky G M ka k) (hm : ∀ e, M ka = some e → M1 ka = some e) : ky G M1 ka k := by
  obtain ⟨kf, h1, h2⟩ := h
  exact ⟨kf, hm _ h1, h2⟩
theorem tr_mono {G : gv_T} {M M1 : mp_T} (d : Nat) : ∀ {r : Option Nat} {L : List no_T} {h : Nat}, tr G M d r L h → (∀ y ∈ L, (∀ e, M y.1 = some e → M1 y.1 = some e) ∧ ∀ e, M y.2.1 = some e → M1 y.2.1 = some e) → tr G M1 d r L h := by
  induction d with
  | zero =>
    intro r L h ht hm
    cases r with
    | none => exact ht
    | some a => exact ht
  | succ d ih =>
    intro r L h ht hm
    cases r with
    | none => exact ht
    | some a =>
      obtain ⟨ka, e, l, r, Ll, Lr, hl, hr, h1, h2, h3, h4, rfl, h6⟩ := ht
      have hme := hm (a, ka, e) (List.mem_append_right _ List.mem_cons_self)
      exact ⟨ka, e, l, r, Ll, Lr, hl, hr, hme.1 _ h1, ky_mono h2 hme.2, ih h3 (fun y hy => hm y (List.mem_append_left _ hy)), ih h4 (fun y hy => hm y (List.mem_append_right _ (List.mem_cons_of_mem _ hy))), rfl, h6⟩
/-- what its cells are stays, where they stay -/
theorem cl_mono {G : gv_T} {M M1 : mp_T} {B B1 : Nat → Prop} {x : Nat} {σ : sg_T} (h : cl_A G M B x σ) (hm : ∀ q e, ¬ B q → M q = some e → M1 q = some e) (hB : ∀ q, B1 q → B q ∨ M q = none) : cl_A G M1 B1 x σ := by
  obtain ⟨ta, tt, root, L, tf, hh, h1, h2, h3, h4, h5, h6, h7, h8, h9, ⟨b1, b2, b3⟩, h11⟩ := h
  have hsome : ∀ q e, ¬ B q → M q = some e → ¬ B1 q := fun q e hq he hb => by
    rcases hB q hb with z | z
    · exact hq z
    · rw [he] at z; cases z
  have key : ∀ (d : Nat) (r : Option Nat) (L : List no_T) (h : Nat), tr G M d r L h → ∀ y ∈ L, (∃ e, M y.1 = some e) ∧ ∃ e, M y.2.1 = some e := by
    intro d
    induction d with
    | zero =>
      intro r L h ht y hy
      cases r with
      | none => rw [ht.1] at hy; cases hy
      | some a => exact ht.elim
    | succ d ih =>
      intro r L h ht y hy
      cases r with
      | none => rw [ht.1] at hy; cases hy
      | some a =>
        obtain ⟨ka, e, l, r, Ll, Lr, hl, hr, q1, ⟨kf, q2, -⟩, q3, q4, rfl, q6⟩ := ht
        rcases List.mem_append.mp hy with z | z
        · exact ih _ _ _ q3 y z
        · rcases List.mem_cons.mp z with z | z
          · subst z; exact ⟨⟨_, q1⟩, _, q2⟩
          · exact ih _ _ _ q4 y z
  refine ⟨ta, tt, root, L, tf, hh, hm _ _ b1 h1, hm _ _ b2 h2, hm _ _ b3 h3, tr_mono _ h4 (fun y hy => ⟨fun e he => hm _ e (h8 y hy).2.2.1 he, fun e he => hm _ e (h8 y hy).2.2.2 he⟩), h5, h6, h7, fun y hy => ?_, h9, ⟨hsome _ _ b1 h1, hsome _ _ b2 h2, hsome _ _ b3 h3⟩, h11⟩
  obtain ⟨q1, q2, q3, q4⟩ := h8 y hy
  obtain ⟨⟨e1, he1⟩, e2, he2⟩ := key _ _ _ _ h4 y hy
  exact ⟨q1, q2, hsome _ e1 q3 he1, hsome _ e2 q4 he2⟩
/-- the room of a call of the subject -/
abbrev rm_C : Room := { frames := 60, cells := 3, slots := 60, locals := 1500 }
def po_C (G : gv_T) (M : mp_T) (B : Nat → Prop) (x : Nat) (sp : Nat × Int32 × sg_T) : Option Value → mp_T → Prop := fun r M1 => sp.1 = 0 ∧ r = some (.int sp.2.1) ∧ cl_A G M1 B x sp.2.2 ∧ ∀ q, B q → M1 q = M q
def po_L (G : gv_T) (M : mp_T) (B : Nat → Prop) (x : Nat) (sp : Nat × Int64 × sg_T) : Option Value → mp_T → Prop := fun r M1 => sp.1 = 0 ∧ r = some (.long sp.2.1) ∧ cl_A G M1 B x sp.2.2 ∧ ∀ q, B q → M1 q = M q
/-- which exception a code stands for -/
def px_C (G : gv_T) (M : mp_T) (B : Nat → Prop) (x : Nat) (c : Nat) (σ1 : sg_T) (X : List String) : String → mp_T → Prop := fun E M1 => (∃ i, c = i + 1 ∧ X[i]? = some E) ∧ cl_A G M1 B x σ1 ∧ ∀ q, B q → M1 q = M q
end
section
/-! ===== what is asked of each call of the subject ===== -/
def K_feed (l : Launch) (G : gv_T) : Prop := ∀ (M : mp_T) (B : Nat → Prop) (x : Nat) (σ : sg_T) (a0 : Int32) (a1 : Int32) (a2 : Int32) (a3 : Int32) (a4 : Int32), cl_A G M B x σ → (∀ q, B q → ∃ w, M q = some w) → ct_C l G y_MT_feed b_MT_feed 6 (some .int) rm_C [.ref x, .int a0, .int a1, .int a2, .int a3, .int a4] M (po_C G M B x (sp_feed a0 a1 a2 a3 a4 σ)) (px_C G M B x (sp_feed a0 a1 a2 a3 a4 σ).1 (sp_feed a0 a1 a2 a3 a4 σ).2.2 [xn_IO])
def K_end (l : Launch) (G : gv_T) : Prop := ∀ (M : mp_T) (B : Nat → Prop) (x : Nat) (σ : sg_T) (a0 : Int32), cl_A G M B x σ → (∀ q, B q → ∃ w, M q = some w) → ct_C l G y_MT_end b_MT_end 2 (some .int) rm_C [.ref x, .int a0] M (po_C G M B x (sp_end a0 σ)) (px_C G M B x (sp_end a0 σ).1 (sp_end a0 σ).2.2 [xn_IA])
def K_put (l : Launch) (G : gv_T) : Prop := ∀ (M : mp_T) (B : Nat → Prop) (x : Nat) (σ : sg_T) (a0 : Int32) (a1 : Int32) (a2 : Int32), cl_A G M B x σ → (∀ q, B q → ∃ w, M q = some w) → ct_C l G y_MT_put b_MT_put 6 (some .int) rm_C [.ref x, .int a0, .int a1, .int a2] M (po_C G M B x (sp_put a0 a1 a2 σ)) (px_C G M B x (sp_put a0 a1 a2 σ).1 (sp_put a0 a1 a2 σ).2.2 [xn_IA, xn_IS])
def K_find (l : Launch) (G : gv_T) : Prop := ∀ (M : mp_T) (B : Nat → Prop) (x : Nat) (σ : sg_T) (a0 : Int32), cl_A G M B x σ → (∀ q, B q → ∃ w, M q = some w) → ct_C l G y_MT_find b_MT_find 5 (some .int) rm_C [.ref x, .int a0] M (po_C G M B x (sp_find a0 σ)) (px_C G M B x (sp_find a0 σ).1 (sp_find a0 σ).2.2 [xn_IA, xn_NS])
def K_seek (l : Launch) (G : gv_T) : Prop := ∀ (M : mp_T) (B : Nat → Prop) (x : Nat) (σ : sg_T) (a0 : Int32) (bb : Bool), cl_A G M B x σ → (∀ q, B q → ∃ w, M q = some w) → ct_C l G y_MT_seek b_MT_seek 3 (some .int) rm_C [.ref x, .int a0, .int (if bb then 1 else 0)] M (po_C G M B x (sp_seek a0 bb σ)) (px_C G M B x (sp_seek a0 bb σ).1 (sp_seek a0 bb σ).2.2 [xn_IA, xn_NS])
def K_next (l : Launch) (G : gv_T) : Prop := ∀ (M : mp_T) (B : Nat → Prop) (x : Nat) (σ : sg_T), cl_A G M B x σ → (∀ q, B q → ∃ w, M q = some w) → ct_C l G y_MT_next b_MT_next 1 (some .int) rm_C [.ref x] M (po_C G M B x (sp_next σ)) (px_C G M B x (sp_next σ).1 (sp_next σ).2.2 [xn_NS])
def K_first (l : Launch) (G : gv_T) : Prop := ∀ (M : mp_T) (B : Nat → Prop) (x : Nat) (σ : sg_T), cl_A G M B x σ → (∀ q, B q → ∃ w, M q = some w) → ct_C l G y_MT_first b_MT_first 1 (some .int) rm_C [.ref x] M (po_C G M B x (sp_first σ)) (px_C G M B x (sp_first σ).1 (sp_first σ).2.2 [xn_NS])
def K_current (l : Launch) (G : gv_T) : Prop := ∀ (M : mp_T) (B : Nat → Prop) (x : Nat) (σ : sg_T) (a0 : Int32), cl_A G M B x σ → (∀ q, B q → ∃ w, M q = some w) → ct_C l G y_MT_current b_MT_current 2 (some .int) rm_C [.ref x, .int a0] M (po_C G M B x (sp_current a0 σ)) (px_C G M B x (sp_current a0 σ).1 (sp_current a0 σ).2.2 [xn_IA, xn_NS])
def K_word (l : Launch) (G : gv_T) : Prop := ∀ (M : mp_T) (B : Nat → Prop) (x : Nat) (σ : sg_T) (a0 : Int32), cl_A G M B x σ → (∀ q, B q → ∃ w, M q = some w) → ct_C l G y_MT_word b_MT_word 6 (some .long) rm_C [.ref x, .int a0] M (po_L G M B x (sp_word a0 σ)) (px_C G M B x (sp_word a0 σ).1 (sp_word a0 σ).2.2 [xn_NS, xn_IO])
def K_clear (l : Launch) (G : gv_T) : Prop := ∀ (M : mp_T) (B : Nat → Prop) (x : Nat) (σ : sg_T), cl_A G M B x σ → (∀ q, B q → ∃ w, M q = some w) → ct_C l G y_MT_clear b_MT_clear 2 (some .int) rm_C [.ref x] M (po_C G M B x (sp_clear σ)) (fun _ _ => False)
def K_count (l : Launch) (G : gv_T) : Prop := ∀ (M : mp_T) (B : Nat → Prop) (x : Nat) (σ : sg_T), cl_A G M B x σ → (∀ q, B q → ∃ w, M q = some w) → ct_C l G y_MT_count b_MT_count 1 (some .int) rm_C [.ref x] M (po_C G M B x ((0, nI σ.2.1.length, σ))) (fun _ _ => False)
def K_init (l : Launch) (G : gv_T) : Prop := ∀ (M : mp_T) (x : Nat), M x = some (.inr (0, [.null, .int 0, .null, .null])) → G.2.2.1 ≤ x → cn_C l G y_MT_init b_MT_init 1 { frames := 2, cells := 2, slots := 62, locals := 60 } [.ref x] M (fun r M1 => r = none ∧ cl_A G M1 (fun _ => False) x ([], [], none) ∧ ∀ q e, q ≠ x → M q = some e → M1 q = some e)
end
section
/-! ===== the law's own methods: a call of the subject, its exceptions as numbers ===== -/
def po_H (G : gv_T) (M : mp_T) (B : Nat → Prop) (x o c : Nat) (v : Int64) (σ1 : sg_T) : Option Value → mp_T → Prop := fun r M1 => r = some (.int (nI c)) ∧ cl_A G M1 B x σ1 ∧ (∃ g : Nat → Int64, M1 o = some (.inl (G.2.1.2.2, 1, .inr (.inl g))) ∧ (c = 0 → g 0 = v)) ∧ ∀ q, B q → q ≠ o → M1 q = M q
theorem in0_1 : vp_in (0 : Int32) 1 := vp_in_nI (n := 0) (N := 1) (by decide) (by decide)
section LA1
variable {l : Launch} {G : gv_T} {M : mp_T} {B : Nat → Prop} {x oo : Nat} {σ : sg_T} {g : Nat → Int64}
set_option maxHeartbeats 4000000 in
set_option maxRecDepth 100000 in
theorem c_LA_feed (hl : l.stackTraces = false) (hK : K_feed l G) (A : cl_A G M B x σ) (hB : ∀ q, B q → ∃ w, M q = some w) (hBo : B oo) (ho : M oo = some (.inl (G.2.1.2.2, 1, .inr (.inl g)))) (hzo : G.2.2.1 ≤ oo) (a0 : Int32) (a1 : Int32) (a2 : Int32) (a3 : Int32) (a4 : Int32) : ct_H l G y_LA_feed b_LA_feed 8 (some .int) [(0, 16, 19, 13)] { frames := 61, cells := 3, slots := 60, locals := 1540 } [.ref x, .int a0, .int a1, .int a2, .int a3, .int a4, .ref oo] M (po_H G M B x oo (sp_feed a0 a1 a2 a3 a4 σ).1 (sp_feed a0 a1 a2 a3 a4 σ).2.1.toInt64 (sp_feed a0 a1 a2 a3 a4 σ).2.2) (fun _ _ => False) := by
  refine ctH_of hl (by decide +kernel) (Nat.le_of_ble_eq_true rfl) ?_
  intro p e s m args below meth c F hr hnm
  have A0 := A
  obtain ⟨_, _, _, _, _, _, hx0, -⟩ := A0
  refine j_aload F d_LA_feed_0 rfl ?_
  refine j_iconst F (v := 0) d_LA_feed_2 (by decide) ?_
  refine j_aload_n F d_LA_feed_3 rfl rfl ?_
  refine j_iload_n F d_LA_feed_4 rfl rfl ?_
  refine j_iload_n F d_LA_feed_5 rfl rfl ?_
  refine j_iload_n F d_LA_feed_6 rfl rfl ?_
  refine j_iload F d_LA_feed_7 rfl ?_
  refine j_iload F d_LA_feed_9 rfl ?_
  refine j_callV F 5 (hK M B x σ a0 a1 a2 a3 a4 A hB) hx0 rfl wl_LA_7 wim_MT_feed wse_MT_feed wi_MT wco_MT_feed (by decide +kernel) (by decide) rfl rfl (Nat.le_of_ble_eq_true rfl) (by decide) (by decide) d_LA_feed_11 ?_ ?_
  · skip
    intro E M1 hx
    obtain ⟨⟨i, hi, hE⟩, A1, hf⟩ := hx
    have ho1 : M1 oo = some (.inl (G.2.1.2.2, 1, .inr (.inl g))) := (hf oo hBo).trans ho
    cases i with
    | zero =>
      cases hE
      refine j_catch F [] ⟨0, 16, 19, 13⟩ [] rfl (fun z hz => by cases hz) (by decide) (by decide) wc_LA_13 (jf_sx F).2.2.2.2.2.2.2.2.2.1 (fun q9 => ?_)
      refine j_astore F (lv1 := [(7, _), (0, _), (1, _), (2, _), (3, _), (4, _), (5, _), (6, _)]) d_LA_feed_19 (by decide) rfl ?_
      refine j_iconst F (v := 1) d_LA_feed_21 (by decide) ?_
      exact j_iret F hr (by decide) (by decide) ⟨by rw [hi]; rfl, A1, ⟨g, ho1, fun z => absurd (hi.symm.trans z) (by omega)⟩, fun q hq _ => hf q hq⟩ d_LA_feed_22
    | succ i => exact absurd hE (by simp)
  · skip
    intro r M1 hp
    obtain ⟨hc0, rfl, A1, hf⟩ := hp
    have ho1 : M1 oo = some (.inl (G.2.1.2.2, 1, .inr (.inl g))) := (hf oo hBo).trans ho
    refine j_i2l F d_LA_feed_14 rfl ?_
    refine j_last F ho1 hzo in0_1 d_LA_feed_15 ?_
    refine j_goto F (tgt := 23) d_LA_feed_16 (by decide) ?_
    refine j_iconst F (v := 0) d_LA_feed_23 (by decide) ?_
    exact j_iret F hr (by decide) (by decide) ⟨by rw [hc0]; rfl, cl_mono A1 (fun q e9 hq he => (mp_Un (fun z => hq (by rw [z]; exact hBo))).trans he) (fun q hq => Or.inl hq), ⟨_, mp_Us _ _ _, fun _ => by first | rfl | (rw [show (0 : Int32).toNatClampNeg = 0 from rfl]; exact pk_uLs)⟩, fun q hq hqo => (mp_Un hqo).trans (hf q hq)⟩ d_LA_feed_24
set_option maxHeartbeats 4000000 in
set_option maxRecDepth 100000 in
theorem c_LA_end (hl : l.stackTraces = false) (hK : K_end l G) (A : cl_A G M B x σ) (hB : ∀ q, B q → ∃ w, M q = some w) (hBo : B oo) (ho : M oo = some (.inl (G.2.1.2.2, 1, .inr (.inl g)))) (hzo : G.2.2.1 ≤ oo) (a0 : Int32) : ct_H l G y_LA_end b_LA_end 4 (some .int) [(0, 9, 12, 19)] { frames := 61, cells := 3, slots := 60, locals := 1540 } [.ref x, .int a0, .ref oo] M (po_H G M B x oo (sp_end a0 σ).1 (sp_end a0 σ).2.1.toInt64 (sp_end a0 σ).2.2) (fun _ _ => False) := by
  refine ctH_of hl (by decide +kernel) (Nat.le_of_ble_eq_true rfl) ?_
  intro p e s m args below meth c F hr hnm
  have A0 := A
  obtain ⟨_, _, _, _, _, _, hx0, -⟩ := A0
  refine j_aload_n F d_LA_end_0 rfl rfl ?_
  refine j_iconst F (v := 0) d_LA_end_1 (by decide) ?_
  refine j_aload_n F d_LA_end_2 rfl rfl ?_
  refine j_iload_n F d_LA_end_3 rfl rfl ?_
  refine j_callV F 1 (hK M B x σ a0 A hB) hx0 rfl wl_LA_15 wim_MT_end wse_MT_end wi_MT wco_MT_end (by decide +kernel) (by decide) rfl rfl (Nat.le_of_ble_eq_true rfl) (by decide) (by decide) d_LA_end_4 ?_ ?_
  · skip
    intro E M1 hx
    obtain ⟨⟨i, hi, hE⟩, A1, hf⟩ := hx
    have ho1 : M1 oo = some (.inl (G.2.1.2.2, 1, .inr (.inl g))) := (hf oo hBo).trans ho
    cases i with
    | zero =>
      cases hE
      refine j_catch F [] ⟨0, 9, 12, 19⟩ [] rfl (fun z hz => by cases hz) (by decide) (by decide) wc_LA_19 (jf_sx F).2.2.2.2.2.2.2.1 (fun q9 => ?_)
      refine j_astore_n F (lv1 := [(3, _), (0, _), (1, _), (2, _)]) d_LA_end_12 rfl (by decide) rfl ?_
      refine j_iconst F (v := 1) d_LA_end_13 (by decide) ?_
      exact j_iret F hr (by decide) (by decide) ⟨by rw [hi]; rfl, A1, ⟨g, ho1, fun z => absurd (hi.symm.trans z) (by omega)⟩, fun q hq _ => hf q hq⟩ d_LA_end_14
    | succ i => exact absurd hE (by simp)
  · skip
    intro r M1 hp
    obtain ⟨hc0, rfl, A1, hf⟩ := hp
    have ho1 : M1 oo = some (.inl (G.2.1.2.2, 1, .inr (.inl g))) := (hf oo hBo).trans ho
    refine j_i2l F d_LA_end_7 rfl ?_
    refine j_last F ho1 hzo in0_1 d_LA_end_8 ?_
    refine j_goto F (tgt := 15) d_LA_end_9 (by decide) ?_
    refine j_iconst F (v := 0) d_LA_end_15 (by decide) ?_
    exact j_iret F hr (by decide) (by decide) ⟨by rw [hc0]; rfl, cl_mono A1 (fun q e9 hq he => (mp_Un (fun z => hq (by rw [z]; exact hBo))).trans he) (fun q hq => Or.inl hq), ⟨_, mp_Us _ _ _, fun _ => by first | rfl | (rw [show (0 : Int32).toNatClampNeg = 0 from rfl]; exact pk_uLs)⟩, fun q hq hqo => (mp_Un hqo).trans (hf q hq)⟩ d_LA_end_16
set_option maxHeartbeats 4000000 in
set_option maxRecDepth 100000 in
theorem c_LA_put (hl : l.stackTraces = false) (hK : K_put l G) (A : cl_A G M B x σ) (hB : ∀ q, B q → ∃ w, M q = some w) (hBo : B oo) (ho : M oo = some (.inl (G.2.1.2.2, 1, .inr (.inl g)))) (hzo : G.2.2.1 ≤ oo) (a0 : Int32) (a1 : Int32) (a2 : Int32) : ct_H l G y_LA_put b_LA_put 6 (some .int) [(0, 12, 15, 19), (0, 12, 19, 25)] { frames := 61, cells := 3, slots := 60, locals := 1540 } [.ref x, .int a0, .int a1, .int a2, .ref oo] M (po_H G M B x oo (sp_put a0 a1 a2 σ).1 (sp_put a0 a1 a2 σ).2.1.toInt64 (sp_put a0 a1 a2 σ).2.2) (fun _ _ => False) := by
  refine ctH_of hl (by decide +kernel) (Nat.le_of_ble_eq_true rfl) ?_
  intro p e s m args below meth c F hr hnm
  have A0 := A
  obtain ⟨_, _, _, _, _, _, hx0, -⟩ := A0
  refine j_aload F d_LA_put_0 rfl ?_
  refine j_iconst F (v := 0) d_LA_put_2 (by decide) ?_
  refine j_aload_n F d_LA_put_3 rfl rfl ?_
  refine j_iload_n F d_LA_put_4 rfl rfl ?_
  refine j_iload_n F d_LA_put_5 rfl rfl ?_
  refine j_iload_n F d_LA_put_6 rfl rfl ?_
  refine j_callV F 3 (hK M B x σ a0 a1 a2 A hB) hx0 rfl wl_LA_21 wim_MT_put wse_MT_put wi_MT wco_MT_put (by decide +kernel) (by decide) rfl rfl (Nat.le_of_ble_eq_true rfl) (by decide) (by decide) d_LA_put_7 ?_ ?_
  · skip
    intro E M1 hx
    obtain ⟨⟨i, hi, hE⟩, A1, hf⟩ := hx
    have ho1 : M1 oo = some (.inl (G.2.1.2.2, 1, .inr (.inl g))) := (hf oo hBo).trans ho
    cases i with
    | zero =>
      cases hE
      refine j_catch F [] ⟨0, 12, 15, 19⟩ [⟨0, 12, 19, 25⟩] rfl (fun z hz => by cases hz) (by decide) (by decide) wc_LA_19 (jf_sx F).2.2.2.2.2.2.2.1 (fun q9 => ?_)
      refine j_astore F (lv1 := [(5, _), (0, _), (1, _), (2, _), (3, _), (4, _)]) d_LA_put_15 (by decide) rfl ?_
      refine j_iconst F (v := 1) d_LA_put_17 (by decide) ?_
      exact j_iret F hr (by decide) (by decide) ⟨by rw [hi]; rfl, A1, ⟨g, ho1, fun z => absurd (hi.symm.trans z) (by omega)⟩, fun q hq _ => hf q hq⟩ d_LA_put_18
    | succ i =>
      cases i with
      | zero =>
        cases hE
        refine j_catch F [⟨0, 12, 15, 19⟩] ⟨0, 12, 19, 25⟩ [] rfl (fun z hz => by
            rcases List.mem_singleton.mp hz with rfl
            exact Or.inr ⟨by decide, _, wc_LA_19, (jf_sx F).2.2.2.2.1⟩) (by decide) (by decide) wc_LA_25 (jf_sx F).2.2.2.2.2.2.2.2.1 (fun q9 => ?_)
        refine j_astore F (lv1 := [(5, _), (0, _), (1, _), (2, _), (3, _), (4, _)]) d_LA_put_19 (by decide) rfl ?_
        refine j_iconst F (v := 2) d_LA_put_21 (by decide) ?_
        exact j_iret F hr (by decide) (by decide) ⟨by rw [hi]; rfl, A1, ⟨g, ho1, fun z => absurd (hi.symm.trans z) (by omega)⟩, fun q hq _ => hf q hq⟩ d_LA_put_22
      | succ i => exact absurd hE (by simp)
  · skip
    intro r M1 hp
    obtain ⟨hc0, rfl, A1, hf⟩ := hp
    have ho1 : M1 oo = some (.inl (G.2.1.2.2, 1, .inr (.inl g))) := (hf oo hBo).trans ho
    refine j_i2l F d_LA_put_10 rfl ?_
    refine j_last F ho1 hzo in0_1 d_LA_put_11 ?_
    refine j_goto F (tgt := 23) d_LA_put_12 (by decide) ?_
    refine j_iconst F (v := 0) d_LA_put_23 (by decide) ?_
    exact j_iret F hr (by decide) (by decide) ⟨by rw [hc0]; rfl, cl_mono A1 (fun q e9 hq he => (mp_Un (fun z => hq (by rw [z]; exact hBo))).trans he) (fun q hq => Or.inl hq), ⟨_, mp_Us _ _ _, fun _ => by first | rfl | (rw [show (0 : Int32).toNatClampNeg = 0 from rfl]; exact pk_uLs)⟩, fun q hq hqo => (mp_Un hqo).trans (hf q hq)⟩ d_LA_put_24
set_option maxHeartbeats 4000000 in
set_option maxRecDepth 100000 in
theorem c_LA_find (hl : l.stackTraces = false) (hK : K_find l G) (A : cl_A G M B x σ) (hB : ∀ q, B q → ∃ w, M q = some w) (hBo : B oo) (ho : M oo = some (.inl (G.2.1.2.2, 1, .inr (.inl g)))) (hzo : G.2.2.1 ≤ oo) (a0 : Int32) : ct_H l G y_LA_find b_LA_find 4 (some .int) [(0, 9, 12, 19), (0, 9, 15, 30)] { frames := 61, cells := 3, slots := 60, locals := 1540 } [.ref x, .int a0, .ref oo] M (po_H G M B x oo (sp_find a0 σ).1 (sp_find a0 σ).2.1.toInt64 (sp_find a0 σ).2.2) (fun _ _ => False) := by
  refine ctH_of hl (by decide +kernel) (Nat.le_of_ble_eq_true rfl) ?_
  intro p e s m args below meth c F hr hnm
  have A0 := A
  obtain ⟨_, _, _, _, _, _, hx0, -⟩ := A0
  refine j_aload_n F d_LA_find_0 rfl rfl ?_
  refine j_iconst F (v := 0) d_LA_find_1 (by decide) ?_
  refine j_aload_n F d_LA_find_2 rfl rfl ?_
  refine j_iload_n F d_LA_find_3 rfl rfl ?_
  refine j_callV F 1 (hK M B x σ a0 A hB) hx0 rfl wl_LA_27 wim_MT_find wse_MT_find wi_MT wco_MT_find (by decide +kernel) (by decide) rfl rfl (Nat.le_of_ble_eq_true rfl) (by decide) (by decide) d_LA_find_4 ?_ ?_
  · skip
    intro E M1 hx
    obtain ⟨⟨i, hi, hE⟩, A1, hf⟩ := hx
    have ho1 : M1 oo = some (.inl (G.2.1.2.2, 1, .inr (.inl g))) := (hf oo hBo).trans ho
    cases i with
    | zero =>
      cases hE
      refine j_catch F [] ⟨0, 9, 12, 19⟩ [⟨0, 9, 15, 30⟩] rfl (fun z hz => by cases hz) (by decide) (by decide) wc_LA_19 (jf_sx F).2.2.2.2.2.2.2.1 (fun q9 => ?_)
      refine j_astore_n F (lv1 := [(3, _), (0, _), (1, _), (2, _)]) d_LA_find_12 rfl (by decide) rfl ?_
      refine j_iconst F (v := 1) d_LA_find_13 (by decide) ?_
      exact j_iret F hr (by decide) (by decide) ⟨by rw [hi]; rfl, A1, ⟨g, ho1, fun z => absurd (hi.symm.trans z) (by omega)⟩, fun q hq _ => hf q hq⟩ d_LA_find_14
    | succ i =>
      cases i with
      | zero =>
        cases hE
        refine j_catch F [⟨0, 9, 12, 19⟩] ⟨0, 9, 15, 30⟩ [] rfl (fun z hz => by
            rcases List.mem_singleton.mp hz with rfl
            exact Or.inr ⟨by decide, _, wc_LA_19, (jf_sx F).2.2.2.2.2.1⟩) (by decide) (by decide) wc_LA_30 (jf_sx F).2.2.2.2.2.2.2.2.2.2.1 (fun q9 => ?_)
        refine j_astore_n F (lv1 := [(3, _), (0, _), (1, _), (2, _)]) d_LA_find_15 rfl (by decide) rfl ?_
        refine j_iconst F (v := 2) d_LA_find_16 (by decide) ?_
        exact j_iret F hr (by decide) (by decide) ⟨by rw [hi]; rfl, A1, ⟨g, ho1, fun z => absurd (hi.symm.trans z) (by omega)⟩, fun q hq _ => hf q hq⟩ d_LA_find_17
      | succ i => exact absurd hE (by simp)
  · skip
    intro r M1 hp
    obtain ⟨hc0, rfl, A1, hf⟩ := hp
    have ho1 : M1 oo = some (.inl (G.2.1.2.2, 1, .inr (.inl g))) := (hf oo hBo).trans ho
    refine j_i2l F d_LA_find_7 rfl ?_
    refine j_last F ho1 hzo in0_1 d_LA_find_8 ?_
    refine j_goto F (tgt := 18) d_LA_find_9 (by decide) ?_
    refine j_iconst F (v := 0) d_LA_find_18 (by decide) ?_
    exact j_iret F hr (by decide) (by decide) ⟨by rw [hc0]; rfl, cl_mono A1 (fun q e9 hq he => (mp_Un (fun z => hq (by rw [z]; exact hBo))).trans he) (fun q hq => Or.inl hq), ⟨_, mp_Us _ _ _, fun _ => by first | rfl | (rw [show (0 : Int32).toNatClampNeg = 0 from rfl]; exact pk_uLs)⟩, fun q hq hqo => (mp_Un hqo).trans (hf q hq)⟩ d_LA_find_19
set_option maxHeartbeats 4000000 in
set_option maxRecDepth 100000 in
theorem c_LA_seek (hl : l.stackTraces = false) (hK : K_seek l G) (A : cl_A G M B x σ) (hB : ∀ q, B q → ∃ w, M q = some w) (hBo : B oo) (ho : M oo = some (.inl (G.2.1.2.2, 1, .inr (.inl g)))) (hzo : G.2.2.1 ≤ oo) (a0 : Int32) (bb : Bool) : ct_H l G y_LA_seek b_LA_seek 5 (some .int) [(0, 10, 13, 19), (0, 10, 17, 30)] { frames := 61, cells := 3, slots := 60, locals := 1540 } [.ref x, .int a0, .int (if bb then 1 else 0), .ref oo] M (po_H G M B x oo (sp_seek a0 bb σ).1 (sp_seek a0 bb σ).2.1.toInt64 (sp_seek a0 bb σ).2.2) (fun _ _ => False) := by
  refine ctH_of hl (by decide +kernel) (Nat.le_of_ble_eq_true rfl) ?_
  intro p e s m args below meth c F hr hnm
  have A0 := A
  obtain ⟨_, _, _, _, _, _, hx0, -⟩ := A0
  refine j_aload_n F d_LA_seek_0 rfl rfl ?_
  refine j_iconst F (v := 0) d_LA_seek_1 (by decide) ?_
  refine j_aload_n F d_LA_seek_2 rfl rfl ?_
  refine j_iload_n F d_LA_seek_3 rfl rfl ?_
  refine j_iload_n F d_LA_seek_4 rfl rfl ?_
  refine j_callV F 2 (hK M B x σ a0 bb A hB) hx0 rfl wl_LA_32 wim_MT_seek wse_MT_seek wi_MT wco_MT_seek (by decide +kernel) (by decide) rfl rfl (Nat.le_of_ble_eq_true rfl) (by decide) (by decide) d_LA_seek_5 ?_ ?_
  · skip
    intro E M1 hx
    obtain ⟨⟨i, hi, hE⟩, A1, hf⟩ := hx
    have ho1 : M1 oo = some (.inl (G.2.1.2.2, 1, .inr (.inl g))) := (hf oo hBo).trans ho
    cases i with
    | zero =>
      cases hE
      refine j_catch F [] ⟨0, 10, 13, 19⟩ [⟨0, 10, 17, 30⟩] rfl (fun z hz => by cases hz) (by decide) (by decide) wc_LA_19 (jf_sx F).2.2.2.2.2.2.2.1 (fun q9 => ?_)
      refine j_astore F (lv1 := [(4, _), (0, _), (1, _), (2, _), (3, _)]) d_LA_seek_13 (by decide) rfl ?_
      refine j_iconst F (v := 1) d_LA_seek_15 (by decide) ?_
      exact j_iret F hr (by decide) (by decide) ⟨by rw [hi]; rfl, A1, ⟨g, ho1, fun z => absurd (hi.symm.trans z) (by omega)⟩, fun q hq _ => hf q hq⟩ d_LA_seek_16
    | succ i =>
      cases i with
      | zero =>
        cases hE
        refine j_catch F [⟨0, 10, 13, 19⟩] ⟨0, 10, 17, 30⟩ [] rfl (fun z hz => by
            rcases List.mem_singleton.mp hz with rfl
            exact Or.inr ⟨by decide, _, wc_LA_19, (jf_sx F).2.2.2.2.2.1⟩) (by decide) (by decide) wc_LA_30 (jf_sx F).2.2.2.2.2.2.2.2.2.2.1 (fun q9 => ?_)
        refine j_astore F (lv1 := [(4, _), (0, _), (1, _), (2, _), (3, _)]) d_LA_seek_17 (by decide) rfl ?_
        refine j_iconst F (v := 2) d_LA_seek_19 (by decide) ?_
        exact j_iret F hr (by decide) (by decide) ⟨by rw [hi]; rfl, A1, ⟨g, ho1, fun z => absurd (hi.symm.trans z) (by omega)⟩, fun q hq _ => hf q hq⟩ d_LA_seek_20
      | succ i => exact absurd hE (by simp)
  · skip
    intro r M1 hp
    obtain ⟨hc0, rfl, A1, hf⟩ := hp
    have ho1 : M1 oo = some (.inl (G.2.1.2.2, 1, .inr (.inl g))) := (hf oo hBo).trans ho
    refine j_i2l F d_LA_seek_8 rfl ?_
    refine j_last F ho1 hzo in0_1 d_LA_seek_9 ?_
    refine j_goto F (tgt := 21) d_LA_seek_10 (by decide) ?_
    refine j_iconst F (v := 0) d_LA_seek_21 (by decide) ?_
    exact j_iret F hr (by decide) (by decide) ⟨by rw [hc0]; rfl, cl_mono A1 (fun q e9 hq he => (mp_Un (fun z => hq (by rw [z]; exact hBo))).trans he) (fun q hq => Or.inl hq), ⟨_, mp_Us _ _ _, fun _ => by first | rfl | (rw [show (0 : Int32).toNatClampNeg = 0 from rfl]; exact pk_uLs)⟩, fun q hq hqo => (mp_Un hqo).trans (hf q hq)⟩ d_LA_seek_22
set_option maxHeartbeats 4000000 in
set_option maxRecDepth 100000 in
theorem c_LA_next (hl : l.stackTraces = false) (hK : K_next l G) (A : cl_A G M B x σ) (hB : ∀ q, B q → ∃ w, M q = some w) (hBo : B oo) (ho : M oo = some (.inl (G.2.1.2.2, 1, .inr (.inl g)))) (hzo : G.2.2.1 ≤ oo) : ct_H l G y_LA_next b_LA_next 3 (some .int) [(0, 8, 11, 30)] { frames := 61, cells := 3, slots := 60, locals := 1540 } [.ref x, .ref oo] M (po_H G M B x oo (sp_next σ).1 (sp_next σ).2.1.toInt64 (sp_next σ).2.2) (fun _ _ => False) := by
  refine ctH_of hl (by decide +kernel) (Nat.le_of_ble_eq_true rfl) ?_
  intro p e s m args below meth c F hr hnm
  have A0 := A
  obtain ⟨_, _, _, _, _, _, hx0, -⟩ := A0
  refine j_aload_n F d_LA_next_0 rfl rfl ?_
  refine j_iconst F (v := 0) d_LA_next_1 (by decide) ?_
  refine j_aload_n F d_LA_next_2 rfl rfl ?_
  refine j_callV F 0 (hK M B x σ  A hB) hx0 rfl wl_LA_36 wim_MT_next wse_MT_next wi_MT wco_MT_next (by decide +kernel) (by decide) rfl rfl (Nat.le_of_ble_eq_true rfl) (by decide) (by decide) d_LA_next_3 ?_ ?_
  · skip
    intro E M1 hx
    obtain ⟨⟨i, hi, hE⟩, A1, hf⟩ := hx
    have ho1 : M1 oo = some (.inl (G.2.1.2.2, 1, .inr (.inl g))) := (hf oo hBo).trans ho
    cases i with
    | zero =>
      cases hE
      refine j_catch F [] ⟨0, 8, 11, 30⟩ [] rfl (fun z hz => by cases hz) (by decide) (by decide) wc_LA_30 (jf_sx F).2.2.2.2.2.2.2.2.2.2.1 (fun q9 => ?_)
      refine j_astore_n F (lv1 := [(2, _), (0, _), (1, _)]) d_LA_next_11 rfl (by decide) rfl ?_
      refine j_iconst F (v := 1) d_LA_next_12 (by decide) ?_
      exact j_iret F hr (by decide) (by decide) ⟨by rw [hi]; rfl, A1, ⟨g, ho1, fun z => absurd (hi.symm.trans z) (by omega)⟩, fun q hq _ => hf q hq⟩ d_LA_next_13
    | succ i => exact absurd hE (by simp)
  · skip
    intro r M1 hp
    obtain ⟨hc0, rfl, A1, hf⟩ := hp
    have ho1 : M1 oo = some (.inl (G.2.1.2.2, 1, .inr (.inl g))) := (hf oo hBo).trans ho
    refine j_i2l F d_LA_next_6 rfl ?_
    refine j_last F ho1 hzo in0_1 d_LA_next_7 ?_
    refine j_goto F (tgt := 14) d_LA_next_8 (by decide) ?_
    refine j_iconst F (v := 0) d_LA_next_14 (by decide) ?_
    exact j_iret F hr (by decide) (by decide) ⟨by rw [hc0]; rfl, cl_mono A1 (fun q e9 hq he => (mp_Un (fun z => hq (by rw [z]; exact hBo))).trans he) (fun q hq => Or.inl hq), ⟨_, mp_Us _ _ _, fun _ => by first | rfl | (rw [show (0 : Int32).toNatClampNeg = 0 from rfl]; exact pk_uLs)⟩, fun q hq hqo => (mp_Un hqo).trans (hf q hq)⟩ d_LA_next_15
set_option maxHeartbeats 4000000 in
set_option maxRecDepth 100000 in
theorem c_LA_first (hl : l.stackTraces = false) (hK : K_first l G) (A : cl_A G M B x σ) (hB : ∀ q, B q → ∃ w, M q = some w) (hBo : B oo) (ho : M oo = some (.inl (G.2.1.2.2, 1, .inr (.inl g)))) (hzo : G.2.2.1 ≤ oo) : ct_H l G y_LA_first b_LA_first 3 (some .int) [(0, 8, 11, 30)] { frames := 61, cells := 3, slots := 60, locals := 1540 } [.ref x, .ref oo] M (po_H G M B x oo (sp_first σ).1 (sp_first σ).2.1.toInt64 (sp_first σ).2.2) (fun _ _ => False) := by
  refine ctH_of hl (by decide +kernel) (Nat.le_of_ble_eq_true rfl) ?_
  intro p e s m args below meth c F hr hnm
  have A0 := A
  obtain ⟨_, _, _, _, _, _, hx0, -⟩ := A0
  refine j_aload_n F d_LA_first_0 rfl rfl ?_
  refine j_iconst F (v := 0) d_LA_first_1 (by decide) ?_
  refine j_aload_n F d_LA_first_2 rfl rfl ?_
  refine j_callV F 0 (hK M B x σ  A hB) hx0 rfl wl_LA_40 wim_MT_first wse_MT_first wi_MT wco_MT_first (by decide +kernel) (by decide) rfl rfl (Nat.le_of_ble_eq_true rfl) (by decide) (by decide) d_LA_first_3 ?_ ?_
  · skip
    intro E M1 hx
    obtain ⟨⟨i, hi, hE⟩, A1, hf⟩ := hx
    have ho1 : M1 oo = some (.inl (G.2.1.2.2, 1, .inr (.inl g))) := (hf oo hBo).trans ho
    cases i with
    | zero =>
      cases hE
      refine j_catch F [] ⟨0, 8, 11, 30⟩ [] rfl (fun z hz => by cases hz) (by decide) (by decide) wc_LA_30 (jf_sx F).2.2.2.2.2.2.2.2.2.2.1 (fun q9 => ?_)
      refine j_astore_n F (lv1 := [(2, _), (0, _), (1, _)]) d_LA_first_11 rfl (by decide) rfl ?_
      refine j_iconst F (v := 1) d_LA_first_12 (by decide) ?_
      exact j_iret F hr (by decide) (by decide) ⟨by rw [hi]; rfl, A1, ⟨g, ho1, fun z => absurd (hi.symm.trans z) (by omega)⟩, fun q hq _ => hf q hq⟩ d_LA_first_13
    | succ i => exact absurd hE (by simp)
  · skip
    intro r M1 hp
    obtain ⟨hc0, rfl, A1, hf⟩ := hp
    have ho1 : M1 oo = some (.inl (G.2.1.2.2, 1, .inr (.inl g))) := (hf oo hBo).trans ho
    refine j_i2l F d_LA_first_6 rfl ?_
    refine j_last F ho1 hzo in0_1 d_LA_first_7 ?_
    refine j_goto F (tgt := 14) d_LA_first_8 (by decide) ?_
    refine j_iconst F (v := 0) d_LA_first_14 (by decide) ?_
    exact j_iret F hr (by decide) (by decide) ⟨by rw [hc0]; rfl, cl_mono A1 (fun q e9 hq he => (mp_Un (fun z => hq (by rw [z]; exact hBo))).trans he) (fun q hq => Or.inl hq), ⟨_, mp_Us _ _ _, fun _ => by first | rfl | (rw [show (0 : Int32).toNatClampNeg = 0 from rfl]; exact pk_uLs)⟩, fun q hq hqo => (mp_Un hqo).trans (hf q hq)⟩ d_LA_first_15
set_option maxHeartbeats 4000000 in
set_option maxRecDepth 100000 in
theorem c_LA_current (hl : l.stackTraces = false) (hK : K_current l G) (A : cl_A G M B x σ) (hB : ∀ q, B q → ∃ w, M q = some w) (hBo : B oo) (ho : M oo = some (.inl (G.2.1.2.2, 1, .inr (.inl g)))) (hzo : G.2.2.1 ≤ oo) (a0 : Int32) : ct_H l G y_LA_current b_LA_current 4 (some .int) [(0, 9, 12, 19), (0, 9, 15, 30)] { frames := 61, cells := 3, slots := 60, locals := 1540 } [.ref x, .int a0, .ref oo] M (po_H G M B x oo (sp_current a0 σ).1 (sp_current a0 σ).2.1.toInt64 (sp_current a0 σ).2.2) (fun _ _ => False) := by
  refine ctH_of hl (by decide +kernel) (Nat.le_of_ble_eq_true rfl) ?_
  intro p e s m args below meth c F hr hnm
  have A0 := A
  obtain ⟨_, _, _, _, _, _, hx0, -⟩ := A0
  refine j_aload_n F d_LA_current_0 rfl rfl ?_
  refine j_iconst F (v := 0) d_LA_current_1 (by decide) ?_
  refine j_aload_n F d_LA_current_2 rfl rfl ?_
  refine j_iload_n F d_LA_current_3 rfl rfl ?_
  refine j_callV F 1 (hK M B x σ a0 A hB) hx0 rfl wl_LA_43 wim_MT_current wse_MT_current wi_MT wco_MT_current (by decide +kernel) (by decide) rfl rfl (Nat.le_of_ble_eq_true rfl) (by decide) (by decide) d_LA_current_4 ?_ ?_
  · skip
    intro E M1 hx
    obtain ⟨⟨i, hi, hE⟩, A1, hf⟩ := hx
    have ho1 : M1 oo = some (.inl (G.2.1.2.2, 1, .inr (.inl g))) := (hf oo hBo).trans ho
    cases i with
    | zero =>
      cases hE
      refine j_catch F [] ⟨0, 9, 12, 19⟩ [⟨0, 9, 15, 30⟩] rfl (fun z hz => by cases hz) (by decide) (by decide) wc_LA_19 (jf_sx F).2.2.2.2.2.2.2.1 (fun q9 => ?_)
      refine j_astore_n F (lv1 := [(3, _), (0, _), (1, _), (2, _)]) d_LA_current_12 rfl (by decide) rfl ?_
      refine j_iconst F (v := 1) d_LA_current_13 (by decide) ?_
      exact j_iret F hr (by decide) (by decide) ⟨by rw [hi]; rfl, A1, ⟨g, ho1, fun z => absurd (hi.symm.trans z) (by omega)⟩, fun q hq _ => hf q hq⟩ d_LA_current_14
    | succ i =>
      cases i with
      | zero =>
        cases hE
        refine j_catch F [⟨0, 9, 12, 19⟩] ⟨0, 9, 15, 30⟩ [] rfl (fun z hz => by
            rcases List.mem_singleton.mp hz with rfl
            exact Or.inr ⟨by decide, _, wc_LA_19, (jf_sx F).2.2.2.2.2.1⟩) (by decide) (by decide) wc_LA_30 (jf_sx F).2.2.2.2.2.2.2.2.2.2.1 (fun q9 => ?_)
        refine j_astore_n F (lv1 := [(3, _), (0, _), (1, _), (2, _)]) d_LA_current_15 rfl (by decide) rfl ?_
        refine j_iconst F (v := 2) d_LA_current_16 (by decide) ?_
        exact j_iret F hr (by decide) (by decide) ⟨by rw [hi]; rfl, A1, ⟨g, ho1, fun z => absurd (hi.symm.trans z) (by omega)⟩, fun q hq _ => hf q hq⟩ d_LA_current_17
      | succ i => exact absurd hE (by simp)
  · skip
    intro r M1 hp
    obtain ⟨hc0, rfl, A1, hf⟩ := hp
    have ho1 : M1 oo = some (.inl (G.2.1.2.2, 1, .inr (.inl g))) := (hf oo hBo).trans ho
    refine j_i2l F d_LA_current_7 rfl ?_
    refine j_last F ho1 hzo in0_1 d_LA_current_8 ?_
    refine j_goto F (tgt := 18) d_LA_current_9 (by decide) ?_
    refine j_iconst F (v := 0) d_LA_current_18 (by decide) ?_
    exact j_iret F hr (by decide) (by decide) ⟨by rw [hc0]; rfl, cl_mono A1 (fun q e9 hq he => (mp_Un (fun z => hq (by rw [z]; exact hBo))).trans he) (fun q hq => Or.inl hq), ⟨_, mp_Us _ _ _, fun _ => by first | rfl | (rw [show (0 : Int32).toNatClampNeg = 0 from rfl]; exact pk_uLs)⟩, fun q hq hqo => (mp_Un hqo).trans (hf q hq)⟩ d_LA_current_19
set_option maxHeartbeats 4000000 in
set_option maxRecDepth 100000 in
theorem c_LA_word (hl : l.stackTraces = false) (hK : K_word l G) (A : cl_A G M B x σ) (hB : ∀ q, B q → ∃ w, M q = some w) (hBo : B oo) (ho : M oo = some (.inl (G.2.1.2.2, 1, .inr (.inl g)))) (hzo : G.2.2.1 ≤ oo) (a0 : Int32) : ct_H l G y_LA_word b_LA_word 4 (some .int) [(0, 8, 11, 30), (0, 8, 14, 13)] { frames := 61, cells := 3, slots := 60, locals := 1540 } [.ref x, .int a0, .ref oo] M (po_H G M B x oo (sp_word a0 σ).1 (sp_word a0 σ).2.1 (sp_word a0 σ).2.2) (fun _ _ => False) := by
  refine ctH_of hl (by decide +kernel) (Nat.le_of_ble_eq_true rfl) ?_
  intro p e s m args below meth c F hr hnm
  have A0 := A
  obtain ⟨_, _, _, _, _, _, hx0, -⟩ := A0
  refine j_aload_n F d_LA_word_0 rfl rfl ?_
  refine j_iconst F (v := 0) d_LA_word_1 (by decide) ?_
  refine j_aload_n F d_LA_word_2 rfl rfl ?_
  refine j_iload_n F d_LA_word_3 rfl rfl ?_
  refine j_callV F 1 (hK M B x σ a0 A hB) hx0 rfl wl_LA_46 wim_MT_word wse_MT_word wi_MT wco_MT_word (by decide +kernel) (by decide) rfl rfl (Nat.le_of_ble_eq_true rfl) (by decide) (by decide) d_LA_word_4 ?_ ?_
  · skip
    intro E M1 hx
    obtain ⟨⟨i, hi, hE⟩, A1, hf⟩ := hx
    have ho1 : M1 oo = some (.inl (G.2.1.2.2, 1, .inr (.inl g))) := (hf oo hBo).trans ho
    cases i with
    | zero =>
      cases hE
      refine j_catch F [] ⟨0, 8, 11, 30⟩ [⟨0, 8, 14, 13⟩] rfl (fun z hz => by cases hz) (by decide) (by decide) wc_LA_30 (jf_sx F).2.2.2.2.2.2.2.2.2.2.1 (fun q9 => ?_)
      refine j_astore_n F (lv1 := [(3, _), (0, _), (1, _), (2, _)]) d_LA_word_11 rfl (by decide) rfl ?_
      refine j_iconst F (v := 1) d_LA_word_12 (by decide) ?_
      exact j_iret F hr (by decide) (by decide) ⟨by rw [hi]; rfl, A1, ⟨g, ho1, fun z => absurd (hi.symm.trans z) (by omega)⟩, fun q hq _ => hf q hq⟩ d_LA_word_13
    | succ i =>
      cases i with
      | zero =>
        cases hE
        refine j_catch F [⟨0, 8, 11, 30⟩] ⟨0, 8, 14, 13⟩ [] rfl (fun z hz => by
            rcases List.mem_singleton.mp hz with rfl
            exact Or.inr ⟨by decide, _, wc_LA_30, (jf_sx F).2.2.2.2.2.2.1⟩) (by decide) (by decide) wc_LA_13 (jf_sx F).2.2.2.2.2.2.2.2.2.1 (fun q9 => ?_)
        refine j_astore_n F (lv1 := [(3, _), (0, _), (1, _), (2, _)]) d_LA_word_14 rfl (by decide) rfl ?_
        refine j_iconst F (v := 2) d_LA_word_15 (by decide) ?_
        exact j_iret F hr (by decide) (by decide) ⟨by rw [hi]; rfl, A1, ⟨g, ho1, fun z => absurd (hi.symm.trans z) (by omega)⟩, fun q hq _ => hf q hq⟩ d_LA_word_16
      | succ i => exact absurd hE (by simp)
  · skip
    intro r M1 hp
    obtain ⟨hc0, rfl, A1, hf⟩ := hp
    have ho1 : M1 oo = some (.inl (G.2.1.2.2, 1, .inr (.inl g))) := (hf oo hBo).trans ho
    refine j_last F ho1 hzo in0_1 d_LA_word_7 ?_
    refine j_goto F (tgt := 17) d_LA_word_8 (by decide) ?_
    refine j_iconst F (v := 0) d_LA_word_17 (by decide) ?_
    exact j_iret F hr (by decide) (by decide) ⟨by rw [hc0]; rfl, cl_mono A1 (fun q e9 hq he => (mp_Un (fun z => hq (by rw [z]; exact hBo))).trans he) (fun q hq => Or.inl hq), ⟨_, mp_Us _ _ _, fun _ => by first | rfl | (rw [show (0 : Int32).toNatClampNeg = 0 from rfl]; exact pk_uLs)⟩, fun q hq hqo => (mp_Un hqo).trans (hf q hq)⟩ d_LA_word_18
end LA1
end
section
def R_law : String := "MomentTreeLaw"
def lw_P (b : Addr) (xs : List Int32) (args : Array Value) (s : State) : Prop := args = #[.ref b] ∧ s.IntsAt b xs ∧ xs.length ≤ 3072 ∧ (Jvm.Cond.and given_1 narrow_1).before args s = true
def lw_Q (_ : Array Value) (s : State) (o : Outcome) (t : State) : Prop := o = .returned (some (.int 1)) ∧ Framed s o t [] 601024 7293034
def lw_Z (below : List Frame) (a : Array Value) (s : State) : State → Prop := fun t => ∃ o, t.status = .running ∧ Ended t below o ∧ lw_Q a s o t
theorem lw_ret {p : Program} {l : Launch} {e : Env} {s : State} {m : MethodId} {below : List Frame} {meth : Method} {c : Code} {b : Nat} (hx : p.tables.exec = Jvm.exec) (hb : c.code = code) (hr : meth.sig.returnType = ret) (hlocks : meth.locks = false) {pc : Nat} {H : Heap} {ls : Array Slot} (hdg : decode code pc = .ok (.ireturn, 1)) : W p l e room_1 s m #[Value.ref b] below meth c H [] 601024 7293034 (lw_Z below #[Value.ref b] s) (F0 m pc ls [.int 1]) := by
  intro T hT X
  obtain ⟨fs, hret, hrun, hended, hW, hframe⟩ := X.leave (v := some (.int 1)) (hlocks := hlocks) (fun h => by rw [hr] at h; cases h)
  have hmeth' : T.vm.method? m = some meth := X.method'
  refine ⟨T.setFrames fs, ?_, .returned (some (.int 1)), hrun, hended, rfl, ⟨_, rfl⟩, hW, hframe⟩
  jvm_step X.here [X.here.top, hx, hb, hdg, hmeth', hr, ret, narrow_b1]
  (try refine ⟨rfl, ?_⟩); (try refine ⟨rfl, ?_⟩)
  first | (intro acts; rw [hret _ acts rfl rfl rfl]) | rw [hret _ _ rfl rfl rfl]
  exact Steps.refl _
def lw_At (p : Program) (s : State) (m : MethodId) (meth : Method) (c : Code) (b L : Nat) (xs : Nat → Int32) : Prop :=
  p.tables.exec = Jvm.exec ∧ c.code = code ∧ meth.sig.returnType = ret ∧ c.maxLocals = 8 ∧ s.vm.findClass R_law = some m.cls ∧ (∀ w ∈ lw_tbl, w.before #[Value.ref b] s = true) ∧ va_X b L xs s s.heap ∧ b < s.heap.size ∧ meth.locks = false ∧ (Jvm.Cond.and given_1 narrow_1).before #[Value.ref b] s = true

def K_all (l : Launch) (G : gv_T) : Prop := K_init l G ∧ K_feed l G ∧ K_end l G ∧ K_put l G ∧ K_find l G ∧ K_seek l G ∧ K_next l G ∧ K_first l G ∧ K_current l G ∧ K_word l G ∧ K_clear l G ∧ K_count l G
theorem mo_keep {G : gv_T} {M0 M M1 : mp_T} {h ta ke le mo pl si : Nat} {fa : Int32} {σ : sg_T} (A : mo_A G M0 M h ta ke le mo pl si fa σ) (hk : ∀ q ∈ [h, ta, ke, le, mo, pl, si], M1 q = M q) : mo_A G M1 M1 h ta ke le mo pl si fa σ := by
  obtain ⟨ok, tf, kf, lf, mf, pf, sf, ⟨⟨s0, s1, s2, s3, s4, s5, s6, hz, nd⟩, -⟩, h1⟩ := A
  exact ⟨ok, tf, kf, lf, mf, pf, sf, ⟨⟨(hk h (by simp)).trans s0, (hk ta (by simp)).trans s1, (hk ke (by simp)).trans s2, (hk le (by simp)).trans s3, (hk mo (by simp)).trans s4, (hk pl (by simp)).trans s5, (hk si (by simp)).trans s6, hz, nd⟩, fun _ _ => rfl⟩, h1⟩
theorem mo_fr {G : gv_T} {M0 M : mp_T} {h ta ke le mo pl si : Nat} {fa : Int32} {σ : sg_T} (A : mo_A G M0 M h ta ke le mo pl si fa σ) : ∀ q, q ∉ [h, ta, ke, le, mo, pl, si] → M q = M0 q := by
  obtain ⟨ok, tf, kf, lf, mf, pf, sf, ⟨-, h2⟩, -⟩ := A
  exact h2
theorem mo_ex {G : gv_T} {M0 M : mp_T} {h ta ke le mo pl si : Nat} {fa : Int32} {σ : sg_T} (A : mo_A G M0 M h ta ke le mo pl si fa σ) : ∀ q ∈ [h, ta, ke, le, mo, pl, si], ∃ w, M q = some w := by
  obtain ⟨ok, tf, kf, lf, mf, pf, sf, ⟨⟨s0, s1, s2, s3, s4, s5, s6, -⟩, -⟩, -⟩ := A
  intro q hq
  simp only [List.mem_cons, List.not_mem_nil, or_false] at hq
  rcases hq with rfl | rfl | rfl | rfl | rfl | rfl | rfl
  · exact ⟨_, s0⟩
  · exact ⟨_, s1⟩
  · exact ⟨_, s2⟩
  · exact ⟨_, s3⟩
  · exact ⟨_, s4⟩
  · exact ⟨_, s5⟩
  · exact ⟨_, s6⟩
theorem mo_S_of {G : gv_T} {M0 M : mp_T} {h ta ke le mo pl si : Nat} {fa : Int32} {σ : sg_T} (A : mo_A G M0 M h ta ke le mo pl si fa σ) : ∃ (tf kf lf mf pf sf : Nat → Int32), mo_S G M h ta ke le mo pl si fa (nI σ.1.length) (nI σ.2.1.length) (cu_I σ.2.2) tf kf lf mf pf sf := by
  obtain ⟨ok, tf, kf, lf, mf, pf, sf, ⟨S, -⟩, -⟩ := A
  exact ⟨tf, kf, lf, mf, pf, sf, S⟩
/-- the cells that are none of the subject's -/
def bb_B (h ta ke le mo pl si oo : Nat) : Nat → Prop := fun q => q ∈ [h, ta, ke, le, mo, pl, si] ∨ q = oo
/-- what holds at the loop's head -/
def lo_I (G : gv_T) (x h ta ke le mo pl si oo : Nat) (M : mp_T) : Prop := oo ∉ [h, ta, ke, le, mo, pl, si] ∧ G.2.2.1 ≤ oo ∧ ∃ (σ : sg_T) (fa : Int32) (g : Nat → Int64), cl_A G M (bb_B h ta ke le mo pl si oo) x σ ∧ mo_A G M M h ta ke le mo pl si fa σ ∧ M oo = some (.inl (G.2.1.2.2, 1, .inr (.inl g)))
theorem lo_B {G : gv_T} {M : mp_T} {h ta ke le mo pl si oo : Nat} {fa : Int32} {σ : sg_T} {w0 : va_E} (A : mo_A G M M h ta ke le mo pl si fa σ) (ho : M oo = some w0) : ∀ q, bb_B h ta ke le mo pl si oo q → ∃ w, M q = some w := fun q hq => hq.elim (mo_ex A q) (fun z => ⟨w0, by rw [z]; exact ho⟩)
/-- behind a call of the subject and the same call of the reference -/
theorem lo_2 {G : gv_T} {M1 M2 : mp_T} {x h ta ke le mo pl si oo : Nat} {fa1 : Int32} {σ1 : sg_T} {g : Nat → Int64} (hoo : oo ∉ [h, ta, ke, le, mo, pl, si]) (hzo : G.2.2.1 ≤ oo) (A1 : cl_A G M1 (bb_B h ta ke le mo pl si oo) x σ1) (ho1 : M1 oo = some (.inl (G.2.1.2.2, 1, .inr (.inl g)))) (A2 : mo_A G M1 M2 h ta ke le mo pl si fa1 σ1) : lo_I G x h ta ke le mo pl si oo M2 ∧ M2 oo = some (.inl (G.2.1.2.2, 1, .inr (.inl g))) := by
  have hf := mo_fr A2
  have ho2 := (hf oo hoo).trans ho1
  exact ⟨⟨hoo, hzo, σ1, fa1, g, cl_mono A1 (fun q e hq he => (hf q (fun z => hq (Or.inl z))).trans he) (fun q hq => Or.inl hq), mo_keep A2 (fun _ _ => rfl), ho2⟩, ho2⟩
theorem lg_cmp_self (x : Int64) : lg_cmp x x = 0 := by unfold lg_cmp; rw [if_neg (by simp), if_pos rfl]
/-- the classes' numbers, the statics -/
theorem lw_G {p : Program} {s : State} {m : MethodId} {meth : Method} {c : Code} {b L : Nat} {xs : Nat → Int32} (C0 : lw_At p s m meth c b L xs) : ∃ G : gv_T, G.2.2.1 = s.heap.size ∧ gk_K G s ∧ sx_S G s s.heap := by
  obtain ⟨-, -, -, -, -, hts0, -, -, -, hgv⟩ := C0
  have hts : ∀ w ∈ tb_ws, w.before #[Value.ref b] s = true := fun w hw => hts0 w (List.mem_filter.mp hw).1
  have hs := flat_of_before _ hgv
  obtain ⟨c0, i0, k0⟩ := u_known hts in_MT (hts _ win_MT)
  obtain ⟨c1, i1, k1⟩ := u_known hts in_TR (hts _ win_TR)
  obtain ⟨c2, i2, k2⟩ := u_known hts in_VE (hts _ win_VE)
  obtain ⟨c3, i3, k3⟩ := u_known hts in_MO (hts _ win_MO)
  obtain ⟨cB, kB, mB, b1, b2, b3⟩ := Cond.arrayClass_spec (hts _ wa_byte)
  obtain ⟨cI, kI, mI, j1, j2, j3⟩ := Cond.arrayClass_spec (hts _ wa_int)
  obtain ⟨cL, kL, mL, l1, l2, l3⟩ := Cond.arrayClass_spec (hts _ wa_long)
  have hA : ∀ a : Nat, a < s.heap.size → ¬ s.heap.size ≤ a := fun a h => Nat.not_le.mpr h
  have hlen : (Term.length (.static "MomentTree" "BEFORE_ALL_KEYS" "[B")).eval #[Value.ref b] s none [] s = some (.int (Int32.ofNat 0)) := va_eqt (z := 0) (hs _ (by decide +kernel))
  obtain ⟨bk, hbk, hT⟩ := va_Tof (tm := .static "MomentTree" "BEFORE_ALL_KEYS" "[B") (ty := .byte) (N := 0) (f := fun _ => .null) (A := fun q => s.heap.size ≤ q) (by decide) (hs _ (by decide +kernel)) hlen (fun j hj => absurd hj (Nat.not_lt_zero _)) hA
  refine ⟨((fun q => match q with | 0 => c0 | 1 => c1 | 2 => c2 | _ => c3, fun q => match q with | 0 => i0 | 1 => i1 | 2 => i2 | _ => i3), (cB, cI, cL), (s.heap.size, bk)), rfl, ⟨?_, ?_⟩, ?_⟩
  · intro q r hq
    match q with
    | 0 => cases hq; exact k0
    | 1 => cases hq; exact k1
    | 2 => cases hq; exact k2
    | 3 => cases hq; exact k3
    | q + 4 => simp at hq
  · intro q r hq
    match q with
    | 0 => cases hq; exact ⟨fun n z => ⟨fun k h => (by cases h), kB, b2, mB, b3⟩, b1⟩
    | 1 => cases hq; exact ⟨fun n z => ⟨fun k h => (by cases h), kI, j2, mI, j3⟩, j1⟩
    | 2 => cases hq; exact ⟨fun n z => ⟨fun k h => (by cases h), kL, l2, mL, l3⟩, l1⟩
    | q + 3 => simp at hq
  · exact ⟨vx_Zqof (hts0 _ (by decide +kernel)) (hts _ wi_JT) (hs _ (by decide +kernel)) hA, vx_Zqof (hts0 _ (by decide +kernel)) (hts _ wi_JT) (hs _ (by decide +kernel)) hA, va_Zof (hts0 _ (by decide +kernel)) (hts _ wi_MT) hbk hA, hT, va_Nc.of (hs _ (by decide +kernel)), va_Nc.of (hs _ (by decide +kernel)), va_Nc.of (hs _ (by decide +kernel)), va_Nw.of rfl (hts0 _ (by decide +kernel)), va_Nw.of rfl (hts0 _ (by decide +kernel)), va_Nw.of rfl (hts0 _ (by decide +kernel)), va_Nw.of rfl (hts0 _ (by decide +kernel)), fun x hx => va_Nw.of rfl (hts0 _ ((by decide +kernel : ∀ x ∈ dc_M, Cond.declares x ∈ lw_tbl) x hx))⟩
theorem go_3 {es : List en_T} {t : ke_T} {c v : Nat} {ok : Bool} (hc : c < 3) : (go_to es t c v ok).1 < 3 := by
  unfold go_to
  split
  · split
    · exact Nat.le_of_ble_eq_true rfl
    · exact hc
  · exact hc
theorem cs_feed {a0 : Int32} {a1 : Int32} {a2 : Int32} {a3 : Int32} {a4 : Int32} {σ : sg_T} : (sp_feed a0 a1 a2 a3 a4 σ).1 < 3 := by
  unfold sp_feed
  split <;> exact Nat.le_of_ble_eq_true rfl
theorem co_feed {a0 : Int32} {a1 : Int32} {a2 : Int32} {a3 : Int32} {a4 : Int32} {σ : sg_T} (h : nI (sp_feed a0 a1 a2 a3 a4 σ).1 = 0) : (sp_feed a0 a1 a2 a3 a4 σ).1 = 0 := by
  have h3 := cs_feed (a0 := a0) (a1 := a1) (a2 := a2) (a3 := a3) (a4 := a4) (σ := σ)
  exact (nI_eq (b := 0) (by omega) (by decide)).mp h
theorem cs_end {a0 : Int32} {σ : sg_T} : (sp_end a0 σ).1 < 3 := by
  unfold sp_end
  split <;> exact Nat.le_of_ble_eq_true rfl
theorem co_end {a0 : Int32} {σ : sg_T} (h : nI (sp_end a0 σ).1 = 0) : (sp_end a0 σ).1 = 0 := by
  have h3 := cs_end (a0 := a0) (σ := σ)
  exact (nI_eq (b := 0) (by omega) (by decide)).mp h
theorem cs_put {a0 : Int32} {a1 : Int32} {a2 : Int32} {σ : sg_T} : (sp_put a0 a1 a2 σ).1 < 3 := by
  unfold sp_put
  split
  · exact Nat.le_of_ble_eq_true rfl
  · split
    · exact Nat.le_of_ble_eq_true rfl
    · split <;> exact Nat.le_of_ble_eq_true rfl
theorem co_put {a0 : Int32} {a1 : Int32} {a2 : Int32} {σ : sg_T} (h : nI (sp_put a0 a1 a2 σ).1 = 0) : (sp_put a0 a1 a2 σ).1 = 0 := by
  have h3 := cs_put (a0 := a0) (a1 := a1) (a2 := a2) (σ := σ)
  exact (nI_eq (b := 0) (by omega) (by decide)).mp h
theorem cs_find {a0 : Int32} {σ : sg_T} : (sp_find a0 σ).1 < 3 := by
  unfold sp_find
  split
  · exact Nat.le_of_ble_eq_true rfl
  · exact go_3 (by decide)
theorem co_find {a0 : Int32} {σ : sg_T} (h : nI (sp_find a0 σ).1 = 0) : (sp_find a0 σ).1 = 0 := by
  have h3 := cs_find (a0 := a0) (σ := σ)
  exact (nI_eq (b := 0) (by omega) (by decide)).mp h
theorem cs_seek {a0 : Int32} {bb : Bool} {σ : sg_T} : (sp_seek a0 bb σ).1 < 3 := by
  unfold sp_seek
  split
  · exact Nat.le_of_ble_eq_true rfl
  · exact go_3 (by decide)
theorem co_seek {a0 : Int32} {bb : Bool} {σ : sg_T} (h : nI (sp_seek a0 bb σ).1 = 0) : (sp_seek a0 bb σ).1 = 0 := by
  have h3 := cs_seek (a0 := a0) (bb := bb) (σ := σ)
  exact (nI_eq (b := 0) (by omega) (by decide)).mp h
theorem cs_next {σ : sg_T} : (sp_next  σ).1 < 3 := by
  unfold sp_next
  split
  · exact go_3 (by decide)
  · exact Nat.le_of_ble_eq_true rfl
theorem co_next {σ : sg_T} (h : nI (sp_next  σ).1 = 0) : (sp_next  σ).1 = 0 := by
  have h3 := cs_next (σ := σ)
  exact (nI_eq (b := 0) (by omega) (by decide)).mp h
theorem cs_first {σ : sg_T} : (sp_first  σ).1 < 3 := by
  unfold sp_first
  exact go_3 (by decide)
theorem co_first {σ : sg_T} (h : nI (sp_first  σ).1 = 0) : (sp_first  σ).1 = 0 := by
  have h3 := cs_first (σ := σ)
  exact (nI_eq (b := 0) (by omega) (by decide)).mp h
theorem cs_current {a0 : Int32} {σ : sg_T} : (sp_current a0 σ).1 < 3 := by
  unfold sp_current
  split
  · exact Nat.le_of_ble_eq_true rfl
  · split <;> exact Nat.le_of_ble_eq_true rfl
theorem co_current {a0 : Int32} {σ : sg_T} (h : nI (sp_current a0 σ).1 = 0) : (sp_current a0 σ).1 = 0 := by
  have h3 := cs_current (a0 := a0) (σ := σ)
  exact (nI_eq (b := 0) (by omega) (by decide)).mp h
theorem cs_word {a0 : Int32} {σ : sg_T} : (sp_word a0 σ).1 < 3 := by
  unfold sp_word
  split
  · exact Nat.le_of_ble_eq_true rfl
  · split <;> exact Nat.le_of_ble_eq_true rfl
theorem co_word {a0 : Int32} {σ : sg_T} (h : nI (sp_word a0 σ).1 = 0) : (sp_word a0 σ).1 = 0 := by
  have h3 := cs_word (a0 := a0) (σ := σ)
  exact (nI_eq (b := 0) (by omega) (by decide)).mp h
set_option maxHeartbeats 16000000 in
set_option maxRecDepth 100000 in
/-- the law's body, over what is asked of the subject -/
theorem whole_open {p : Program} {e : Env} {s : State} {m : MethodId} {below : List Frame} {meth : Method} {c : Code} (l : Launch) (hl : l.stackTraces = false) (HK : ∀ G : gv_T, K_all l G) {b L : Nat} {xs : Nat → Int32} (hL : L ≤ 3072) (C0 : lw_At p s m meth c b L xs) : W p l e room_1 s m #[Value.ref b] below meth c s.heap [] 0 0 (lw_Z below #[Value.ref b] s) (entryFrame m ([Value.ref b] : List Value).toArray 8) := by
  obtain ⟨G, hz, hK, hsx⟩ := lw_G C0
  obtain ⟨hx0, hb0, hr0, hml, hown, hts0, hX, hbl, hlk, hgv⟩ := C0
  obtain ⟨Ki, Kfeed, Kend, Kput, Kfind, Kseek, Knext, Kfirst, Kcurrent, Kword, Kclear, Kcount⟩ := HK G
  have hts : ∀ w ∈ tb_ws, w.before #[Value.ref b] s = true := fun w hw => hts0 w (List.mem_filter.mp hw).1
  have F : jf p l s m #[Value.ref b] meth c G "MomentTreeLaw" b_LA_law 8 c.exceptionTable.toList := ⟨hx0, hb0, hml, hown, hts, hK, by rw [hz]; exact Nat.le_refl _, hsx, hlk, hl, rfl⟩
  have hbA : ¬ ge_A G b := by
    show ¬ G.2.2.1 ≤ b
    rw [hz]
    omega
  suffices start : jj p l e room_1 s m #[Value.ref b] below meth c G 8 (lw_Z below #[Value.ref b] s) (fun _ => none) 0 0 (lv_args 0 [.ref b]) 0 [] by
    rw [lg_entry_eq]
    exact start s.heap [] _ (fun a e h => by cases h) va_S.rf (lv_entry _ (Nat.le_of_ble_eq_true rfl))
  refine j_new F (ci := 0) (fs := [.null, .int 0, .null, .null]) rfl in_MT ty_MT ok_MT wc_LA_8 win_MT wi_MT (fun j hj => by rcases (show j = 0 ∨ j = 1 ∨ j = 2 ∨ j = 3 by omega) with rfl | rfl | rfl | rfl <;> rfl) (by decide) (by decide) d_LA_law_0 (fun x zx nx => ?_)
  refine j_dup F d_LA_law_3 rfl ?_
  refine j_callI F 0 (Ki _ x (mp_Us _ _ _) zx) wl_LA_50 wim_MT_init wi_MT wco_MT_init rfl (fun v M1 h => by cases h.1) (by decide +kernel) (by decide) rfl rfl (Nat.le_of_ble_eq_true rfl) (by decide) (by decide) d_LA_law_4 (fun M1 hp => ?_)
  obtain ⟨-, A0, hf0⟩ := hp
  refine j_astore_n F (lv1 := [(1, _), (0, _)]) d_LA_law_7 rfl (by decide) rfl ?_
  refine j_new F (ci := 3) (fs := [.int 0, .null, .int 0, .null, .null, .null, .null, .null, .int 0, .int 0]) rfl in_MO ty_MO ok_MO wc_LA_51 win_MO wi_MO (fun j hj => by rcases (show j = 0 ∨ j = 1 ∨ j = 2 ∨ j = 3 ∨ j = 4 ∨ j = 5 ∨ j = 6 ∨ j = 7 ∨ j = 8 ∨ j = 9 by omega) with rfl | rfl | rfl | rfl | rfl | rfl | rfl | rfl | rfl | rfl <;> rfl) (by decide) (by decide) d_LA_law_8 (fun h zh nh => ?_)
  refine j_dup F d_LA_law_11 rfl ?_
  refine j_callI F 0 (c_MO_init hl (M := mp_U M1 h mo_I) (mp_Us _ _ _) zh) wl_LA_53 wim_MO_init wi_MO wco_MO_init rfl (fun v M1 h => by cases h.1) (by decide +kernel) (by decide) rfl rfl (Nat.le_of_ble_eq_true rfl) (by decide) (by decide) d_LA_law_12 (fun M3 hp => ?_)
  obtain ⟨-, ta, ke, le, mo, pl, si, B0, hn0, hf1⟩ := hp
  refine j_astore_n F (lv1 := [(2, _), (1, _), (0, _)]) d_LA_law_15 rfl (by decide) rfl ?_
  refine j_iconst F (v := 1) d_LA_law_16 (by decide) ?_
  refine j_newl F wa_long (len := 1) (by decide) (by decide) (by decide) (by decide) (by decide) d_LA_law_17 (fun oo zo no => ?_)
  refine j_astore_n F (lv1 := [(3, _), (2, _), (1, _), (0, _)]) d_LA_law_19 rfl (by decide) rfl ?_
  refine j_iconst F (v := 0) d_LA_law_20 (by decide) ?_
  refine j_istore F (lv1 := [(4, _), (3, _), (2, _), (1, _), (0, _)]) d_LA_law_21 (by decide) rfl ?_
  have hoo : oo ∉ [h, ta, ke, le, mo, pl, si] := fun z => by
    obtain ⟨w, hw⟩ := mo_ex B0 oo z
    rw [no] at hw; cases hw
  have hne : ∀ q e9, M1 q = some e9 → M3 q = some e9 := fun q e9 he => by
    have hqh : q ≠ h := fun z => by rw [z, nh] at he; cases he
    exact hf1 q e9 hqh ((mp_Un hqh).trans he)
  have hI : lo_I G x h ta ke le mo pl si oo (mp_U M3 oo (.inl (G.2.1.2.2, 1, .inr (.inl (fun _ => 0))))) := by
    refine ⟨hoo, zo, _, _, _, cl_mono A0 (fun q e9 _ he => ?_) (fun q hq => Or.inr ?_), mo_keep B0 (fun q hq => mp_Un (fun z => hoo (by rw [← z]; exact hq))), mp_Us _ _ _⟩
    · have h3 := hne q e9 he
      exact (mp_Un (fun z => by rw [z, no] at h3; cases h3)).trans h3
    · cases hq1 : M1 q with
      | none => rfl
      | some e9 =>
        have h3 := hne q e9 hq1
        rcases hq with z | z
        · rcases List.mem_cons.mp z with z | z
          · rw [z, nh] at hq1; cases hq1
          · have h4 := hn0 q z
            have hqh : q ≠ h := fun z => by rw [z, nh] at hq1; cases hq1
            rw [mp_Un hqh, hq1] at h4
            cases h4
        · rw [z, no] at h3; cases h3
  generalize mp_U M3 oo (.inl (G.2.1.2.2, 1, .inr (.inl (fun _ => 0)))) = M4 at hI ⊢
  refine j_lv (lv1 := [(4, .int (nI (6 * 0))), (3, .ref oo), (2, .ref h), (1, .ref x), (0, .ref b)]) rfl ?_
  refine j_widen (k1 := 20 + 3 * 0) (n1 := 8000 + 60 * 0) (by decide) (by decide) ?_
  refine j_ind (α := Nat × mp_T) (fun y => 600 - y.1) (fun y => y.2) (fun y => 20 + 3 * y.1) (fun y => 8000 + 60 * y.1) (fun y => [(4, .int (nI (6 * y.1))), (3, .ref oo), (2, .ref h), (1, .ref x), (0, .ref b)]) (fun _ => []) (fun y => 6 * y.1 ≤ L + 5 ∧ lo_I G x h ta ke le mo pl si oo y.2) ?_ (0, M4) ⟨by omega, hI⟩
  intro y hy ih
  obtain ⟨t, M5⟩ := y
  obtain ⟨ht, hI5⟩ := hy
  dsimp only at ht hI5 ⊢
  refine j_iload F d_LA_law_23 rfl ?_
  refine j_aload_n F d_LA_law_25 rfl rfl ?_
  refine j_slen F hX hbl hbA d_LA_law_26 ?_
  refine j_bipush F (v := 6) d_LA_law_27 (by decide) ?_
  refine j_isub F d_LA_law_29 ?_
  have hcmp : nI L - 6 < nI (6 * t) ↔ L < 6 * t + 6 := by
    rw [Int32.lt_iff_toInt_lt, show (6 : Int32) = nI 6 from rfl, pk_sub_toInt (by omega) (by decide), nI_toInt (by omega)]
    omega
  refine j_icmp_gt F (tgt := 711) d_LA_law_30 (by decide) (fun hc => ?_) (fun hc => ?_)
  · skip
    refine j_iconst F (v := 1) d_LA_law_711 (by decide) ?_
    intro H locs ls h1 h2 h3
    refine W.widen (by show 20 + 3 * t ≤ 601024; omega) (by show 8000 + 60 * t ≤ 7293034; omega) (va_forget (fun q hq => ?_) (lw_ret hx0 hb0 hr0 hlk d_LA_law_712))
    have := h2.2.2 q hq
    unfold ge_A at this
    rw [hz] at this
    exact this
  · skip
    have hin : 6 * t + 6 ≤ L := Nat.not_lt.mp (fun z => hc (hcmp.mpr z))
    refine j_cut (α := mp_T) (fun M6 => lo_I G x h ta ke le mo pl si oo M6) (fun M6 => M6) (fun _ => 20 + 3 * t + 3) (fun _ => 8000 + 60 * t + 60) (fun _ => [(4, .int (nI (6 * t))), (3, .ref oo), (2, .ref h), (1, .ref x), (0, .ref b)]) 705 (fun _ => []) ?_ (fun at705 => ?_)
    · skip
      intro M6 hI6
      refine j_iinc F (lv1 := [(4, _), (3, _), (2, _), (1, _), (0, _)]) d_LA_law_705 rfl (show nI (6 * t) + Int32.ofInt 6 = nI (6 * (t + 1)) from nI_add (6 * t) 6) (by decide) rfl ?_
      refine j_goto F (tgt := 23) d_LA_law_708 (by decide) ?_
      refine j_widen (k1 := 20 + 3 * (t + 1)) (n1 := 8000 + 60 * (t + 1)) (by omega) (by omega) ?_
      exact ih (t + 1, M6) ⟨by dsimp only; omega, hI6⟩ (by dsimp only; omega)
    obtain ⟨hoo5, hzo5, σ, fa, g, A5, B5, ho5⟩ := hI5
    have hB5 := lo_B B5 ho5
    have hBo : bb_B h ta ke le mo pl si oo oo := Or.inr rfl
    refine j_aload_n F d_LA_law_33 rfl rfl ?_
    refine j_iload F d_LA_law_34 rfl ?_
    refine j_sld F hX hbl hbA (by omega) (by omega) d_LA_law_36 ?_
    refine j_bipush F (v := 15) d_LA_law_37 (by decide) ?_
    refine j_iand F d_LA_law_39 ?_
    obtain ⟨j, hj, hjx⟩ := pk_andE (xs (6 * t)) (m := 15) 4 (by decide)
    refine j_val hjx ?_
    have hjt : (nI j).toInt = (j : Int) := nI_toInt (by omega)
    by_cases hj0 : j = 0
    · skip
      subst hj0
      refine j_tableIn F (off := 60) (tgt := 100) d_LA_law_40 (by rw [hjt]; decide) (by rw [hjt]; decide) (by rw [hjt]; rfl) (by decide) ?_
      refine j_aload_n F d_LA_law_100 rfl rfl ?_
      refine j_aload_n F d_LA_law_101 rfl rfl ?_
      refine j_iload F d_LA_law_102 rfl ?_
      refine j_iconst F (v := 1) d_LA_law_104 (by decide) ?_
      refine j_iadd F d_LA_law_105 ?_
      refine j_val (y := nI (6 * t + 1)) (nI_add (6 * t) 1) ?_
      refine j_sld F hX hbl hbA (by omega) (by omega) d_LA_law_106 ?_
      refine j_aload_n F d_LA_law_107 rfl rfl ?_
      refine j_iload F d_LA_law_108 rfl ?_
      refine j_iconst F (v := 2) d_LA_law_110 (by decide) ?_
      refine j_iadd F d_LA_law_111 ?_
      refine j_val (y := nI (6 * t + 2)) (nI_add (6 * t) 2) ?_
      refine j_sld F hX hbl hbA (by omega) (by omega) d_LA_law_112 ?_
      refine j_aload_n F d_LA_law_113 rfl rfl ?_
      refine j_iload F d_LA_law_114 rfl ?_
      refine j_iconst F (v := 3) d_LA_law_116 (by decide) ?_
      refine j_iadd F d_LA_law_117 ?_
      refine j_val (y := nI (6 * t + 3)) (nI_add (6 * t) 3) ?_
      refine j_sld F hX hbl hbA (by omega) (by omega) d_LA_law_118 ?_
      refine j_aload_n F d_LA_law_119 rfl rfl ?_
      refine j_iload F d_LA_law_120 rfl ?_
      refine j_iconst F (v := 4) d_LA_law_122 (by decide) ?_
      refine j_iadd F d_LA_law_123 ?_
      refine j_val (y := nI (6 * t + 4)) (nI_add (6 * t) 4) ?_
      refine j_sld F hX hbl hbA (by omega) (by omega) d_LA_law_124 ?_
      refine j_aload_n F d_LA_law_125 rfl rfl ?_
      refine j_iload F d_LA_law_126 rfl ?_
      refine j_iconst F (v := 5) d_LA_law_128 (by decide) ?_
      refine j_iadd F d_LA_law_129 ?_
      refine j_val (y := nI (6 * t + 5)) (nI_add (6 * t) 5) ?_
      refine j_sld F hX hbl hbA (by omega) (by omega) d_LA_law_130 ?_
      refine j_aload_n F d_LA_law_131 rfl rfl ?_
      refine j_callH F 7 (c_LA_feed hl Kfeed A5 hB5 hBo ho5 hzo5 (xs (6 * t + 1)) (xs (6 * t + 2)) (xs (6 * t + 3)) (xs (6 * t + 4)) (xs (6 * t + 5))) wl_LA_54 wst_LA_feed wi_LA wcw_LA_feed (by decide +kernel) (by decide) rfl rfl (Nat.le_of_ble_eq_true rfl) (by show 20 + 3 * t + 3 ≤ 601024; omega) (by show 8000 + 60 * t + 60 ≤ 7293034; omega) d_LA_law_132 (fun E M1 hx => hx.elim) (fun r M6 hp => ?_)
      obtain ⟨rfl, A6, ⟨g6, ho6, hg6⟩, hf6⟩ := hp
      have B6 := mo_keep B5 (fun q hq => hf6 q (Or.inl hq) (fun z => hoo5 (by rw [← z]; exact hq)))
      obtain ⟨_, _, _, _, _, _, S6⟩ := mo_S_of B6
      refine j_istore F (lv1 := [(5, _), (4, _), (3, _), (2, _), (1, _), (0, _)]) d_LA_law_135 (by decide) rfl ?_
      refine j_aload_n F d_LA_law_137 rfl rfl ?_
      refine j_aload_n F d_LA_law_138 rfl rfl ?_
      refine j_iload F d_LA_law_139 rfl ?_
      refine j_iconst F (v := 1) d_LA_law_141 (by decide) ?_
      refine j_iadd F d_LA_law_142 ?_
      refine j_val (y := nI (6 * t + 1)) (nI_add (6 * t) 1) ?_
      refine j_sld F hX hbl hbA (by omega) (by omega) d_LA_law_143 ?_
      refine j_aload_n F d_LA_law_144 rfl rfl ?_
      refine j_iload F d_LA_law_145 rfl ?_
      refine j_iconst F (v := 2) d_LA_law_147 (by decide) ?_
      refine j_iadd F d_LA_law_148 ?_
      refine j_val (y := nI (6 * t + 2)) (nI_add (6 * t) 2) ?_
      refine j_sld F hX hbl hbA (by omega) (by omega) d_LA_law_149 ?_
      refine j_aload_n F d_LA_law_150 rfl rfl ?_
      refine j_iload F d_LA_law_151 rfl ?_
      refine j_iconst F (v := 3) d_LA_law_153 (by decide) ?_
      refine j_iadd F d_LA_law_154 ?_
      refine j_val (y := nI (6 * t + 3)) (nI_add (6 * t) 3) ?_
      refine j_sld F hX hbl hbA (by omega) (by omega) d_LA_law_155 ?_
      refine j_aload_n F d_LA_law_156 rfl rfl ?_
      refine j_iload F d_LA_law_157 rfl ?_
      refine j_iconst F (v := 4) d_LA_law_159 (by decide) ?_
      refine j_iadd F d_LA_law_160 ?_
      refine j_val (y := nI (6 * t + 4)) (nI_add (6 * t) 4) ?_
      refine j_sld F hX hbl hbA (by omega) (by omega) d_LA_law_161 ?_
      refine j_aload_n F d_LA_law_162 rfl rfl ?_
      refine j_iload F d_LA_law_163 rfl ?_
      refine j_iconst F (v := 5) d_LA_law_165 (by decide) ?_
      refine j_iadd F d_LA_law_166 ?_
      refine j_val (y := nI (6 * t + 5)) (nI_add (6 * t) 5) ?_
      refine j_sld F hX hbl hbA (by omega) (by omega) d_LA_law_167 ?_
      refine j_callV F 5 (c_MO_feed hl B6 (xs (6 * t + 1)) (xs (6 * t + 2)) (xs (6 * t + 3)) (xs (6 * t + 4)) (xs (6 * t + 5))) (so_h S6) rfl wl_LA_59 wim_MO_feed wse_MO_feed wi_MO wco_MO_feed (by decide +kernel) (by decide) rfl rfl (Nat.le_of_ble_eq_true rfl) (by show 20 + 3 * t + 3 + 0 ≤ 601024; omega) (by show 8000 + 60 * t + 60 + 0 ≤ 7293034; omega) d_LA_law_168 (fun E M1 hx => hx.elim) (fun r M7 hp => ?_)
      obtain ⟨rfl, B7⟩ := hp
      obtain ⟨hI7, ho7⟩ := lo_2 hoo5 hzo5 A6 ho6 B7
      obtain ⟨_, _, _, _, _, _, S7⟩ := mo_S_of B7
      refine j_istore F (lv1 := [(6, _), (5, _), (4, _), (3, _), (2, _), (1, _), (0, _)]) d_LA_law_171 (by decide) rfl ?_
      refine j_aload_n F d_LA_law_173 rfl rfl ?_
      refine j_callV F 0 (c_MO_thrown hl S7) (so_h S7) rfl wl_LA_60 wim_MO_thrown wse_MO_thrown wi_MO wco_MO_thrown (by decide +kernel) (by decide) rfl rfl (Nat.le_of_ble_eq_true rfl) (by show 20 + 3 * t + 3 + 0 + 0 ≤ 601024; omega) (by show 8000 + 60 * t + 60 + 0 + 0 ≤ 7293034; omega) d_LA_law_174 (fun E M1 hx => hx.elim) (fun r M8 hp => ?_)
      obtain ⟨rfl, rfl⟩ := hp
      refine j_iload F d_LA_law_177 rfl ?_
      refine j_icmp_eq F (tgt := 184) d_LA_law_179 (by decide) (fun hq => ?_) (fun hq => absurd rfl hq)
      refine j_iload F d_LA_law_184 rfl ?_
      refine j_if_ne F (tgt := 201) d_LA_law_186 (by decide) (fun hq2 => ?_) (fun hq2 => ?_)
      · skip
        refine j_goto F (tgt := 705) d_LA_law_201 (by decide) ?_
        refine j_sub [2, 3, 4, 5, 6] rfl ?_
        exact at705 M7 hI7
      · skip
        have hc0 : (sp_feed (xs (6 * t + 1)) (xs (6 * t + 2)) (xs (6 * t + 3)) (xs (6 * t + 4)) (xs (6 * t + 5)) σ).1 = 0 := co_feed hq2
        refine j_aload_n F d_LA_law_189 rfl rfl ?_
        refine j_iconst F (v := 0) d_LA_law_190 (by decide) ?_
        refine j_lald F ho7 in0_1 d_LA_law_191 ?_
        refine j_valL (y := (sp_feed (xs (6 * t + 1)) (xs (6 * t + 2)) (xs (6 * t + 3)) (xs (6 * t + 4)) (xs (6 * t + 5)) σ).2.1.toInt64) (hg6 hc0) ?_
        refine j_iload F d_LA_law_192 rfl ?_
        refine j_i2l F d_LA_law_194 rfl ?_
        refine j_lcmp F d_LA_law_195 ?_
        refine j_val (lg_cmp_self _) ?_
        refine j_if_eq F (tgt := 201) d_LA_law_196 (by decide) (fun hq3 => ?_) (fun hq3 => absurd rfl hq3)
        refine j_goto F (tgt := 705) d_LA_law_201 (by decide) ?_
        refine j_sub [2, 3, 4, 5, 6] rfl ?_
        exact at705 M7 hI7
    by_cases hj1 : j = 1
    · skip
      subst hj1
      refine j_tableIn F (off := 164) (tgt := 204) d_LA_law_40 (by rw [hjt]; decide) (by rw [hjt]; decide) (by rw [hjt]; rfl) (by decide) ?_
      refine j_aload_n F d_LA_law_204 rfl rfl ?_
      refine j_aload_n F d_LA_law_205 rfl rfl ?_
      refine j_iload F d_LA_law_206 rfl ?_
      refine j_iconst F (v := 1) d_LA_law_208 (by decide) ?_
      refine j_iadd F d_LA_law_209 ?_
      refine j_val (y := nI (6 * t + 1)) (nI_add (6 * t) 1) ?_
      refine j_sld F hX hbl hbA (by omega) (by omega) d_LA_law_210 ?_
      refine j_aload_n F d_LA_law_211 rfl rfl ?_
      refine j_callH F 3 (c_LA_end hl Kend A5 hB5 hBo ho5 hzo5 (xs (6 * t + 1))) wl_LA_63 wst_LA_end wi_LA wcw_LA_end (by decide +kernel) (by decide) rfl rfl (Nat.le_of_ble_eq_true rfl) (by show 20 + 3 * t + 3 ≤ 601024; omega) (by show 8000 + 60 * t + 60 ≤ 7293034; omega) d_LA_law_212 (fun E M1 hx => hx.elim) (fun r M6 hp => ?_)
      obtain ⟨rfl, A6, ⟨g6, ho6, hg6⟩, hf6⟩ := hp
      have B6 := mo_keep B5 (fun q hq => hf6 q (Or.inl hq) (fun z => hoo5 (by rw [← z]; exact hq)))
      obtain ⟨_, _, _, _, _, _, S6⟩ := mo_S_of B6
      refine j_istore F (lv1 := [(5, _), (4, _), (3, _), (2, _), (1, _), (0, _)]) d_LA_law_215 (by decide) rfl ?_
      refine j_aload_n F d_LA_law_217 rfl rfl ?_
      refine j_aload_n F d_LA_law_218 rfl rfl ?_
      refine j_iload F d_LA_law_219 rfl ?_
      refine j_iconst F (v := 1) d_LA_law_221 (by decide) ?_
      refine j_iadd F d_LA_law_222 ?_
      refine j_val (y := nI (6 * t + 1)) (nI_add (6 * t) 1) ?_
      refine j_sld F hX hbl hbA (by omega) (by omega) d_LA_law_223 ?_
      refine j_callV F 1 (c_MO_end hl B6 (xs (6 * t + 1))) (so_h S6) rfl wl_LA_66 wim_MO_end wse_MO_end wi_MO wco_MO_end (by decide +kernel) (by decide) rfl rfl (Nat.le_of_ble_eq_true rfl) (by show 20 + 3 * t + 3 + 0 ≤ 601024; omega) (by show 8000 + 60 * t + 60 + 0 ≤ 7293034; omega) d_LA_law_224 (fun E M1 hx => hx.elim) (fun r M7 hp => ?_)
      obtain ⟨rfl, B7⟩ := hp
      obtain ⟨hI7, ho7⟩ := lo_2 hoo5 hzo5 A6 ho6 B7
      obtain ⟨_, _, _, _, _, _, S7⟩ := mo_S_of B7
      refine j_istore F (lv1 := [(6, _), (5, _), (4, _), (3, _), (2, _), (1, _), (0, _)]) d_LA_law_227 (by decide) rfl ?_
      refine j_aload_n F d_LA_law_229 rfl rfl ?_
      refine j_callV F 0 (c_MO_thrown hl S7) (so_h S7) rfl wl_LA_60 wim_MO_thrown wse_MO_thrown wi_MO wco_MO_thrown (by decide +kernel) (by decide) rfl rfl (Nat.le_of_ble_eq_true rfl) (by show 20 + 3 * t + 3 + 0 + 0 ≤ 601024; omega) (by show 8000 + 60 * t + 60 + 0 + 0 ≤ 7293034; omega) d_LA_law_230 (fun E M1 hx => hx.elim) (fun r M8 hp => ?_)
      obtain ⟨rfl, rfl⟩ := hp
      refine j_iload F d_LA_law_233 rfl ?_
      refine j_icmp_eq F (tgt := 240) d_LA_law_235 (by decide) (fun hq => ?_) (fun hq => absurd rfl hq)
      refine j_iload F d_LA_law_240 rfl ?_
      refine j_if_ne F (tgt := 257) d_LA_law_242 (by decide) (fun hq2 => ?_) (fun hq2 => ?_)
      · skip
        refine j_goto F (tgt := 705) d_LA_law_257 (by decide) ?_
        refine j_sub [2, 3, 4, 5, 6] rfl ?_
        exact at705 M7 hI7
      · skip
        have hc0 : (sp_end (xs (6 * t + 1)) σ).1 = 0 := co_end hq2
        refine j_aload_n F d_LA_law_245 rfl rfl ?_
        refine j_iconst F (v := 0) d_LA_law_246 (by decide) ?_
        refine j_lald F ho7 in0_1 d_LA_law_247 ?_
        refine j_valL (y := (sp_end (xs (6 * t + 1)) σ).2.1.toInt64) (hg6 hc0) ?_
        refine j_iload F d_LA_law_248 rfl ?_
        refine j_i2l F d_LA_law_250 rfl ?_
        refine j_lcmp F d_LA_law_251 ?_
        refine j_val (lg_cmp_self _) ?_
        refine j_if_eq F (tgt := 257) d_LA_law_252 (by decide) (fun hq3 => ?_) (fun hq3 => absurd rfl hq3)
        refine j_goto F (tgt := 705) d_LA_law_257 (by decide) ?_
        refine j_sub [2, 3, 4, 5, 6] rfl ?_
        exact at705 M7 hI7
    by_cases hj2 : j = 2
    · skip
      subst hj2
      refine j_tableIn F (off := 220) (tgt := 260) d_LA_law_40 (by rw [hjt]; decide) (by rw [hjt]; decide) (by rw [hjt]; rfl) (by decide) ?_
      refine j_aload_n F d_LA_law_260 rfl rfl ?_
      refine j_aload_n F d_LA_law_261 rfl rfl ?_
      refine j_iload F d_LA_law_262 rfl ?_
      refine j_iconst F (v := 1) d_LA_law_264 (by decide) ?_
      refine j_iadd F d_LA_law_265 ?_
      refine j_val (y := nI (6 * t + 1)) (nI_add (6 * t) 1) ?_
      refine j_sld F hX hbl hbA (by omega) (by omega) d_LA_law_266 ?_
      refine j_aload_n F d_LA_law_267 rfl rfl ?_
      refine j_iload F d_LA_law_268 rfl ?_
      refine j_iconst F (v := 2) d_LA_law_270 (by decide) ?_
      refine j_iadd F d_LA_law_271 ?_
      refine j_val (y := nI (6 * t + 2)) (nI_add (6 * t) 2) ?_
      refine j_sld F hX hbl hbA (by omega) (by omega) d_LA_law_272 ?_
      refine j_aload_n F d_LA_law_273 rfl rfl ?_
      refine j_iload F d_LA_law_274 rfl ?_
      refine j_iconst F (v := 3) d_LA_law_276 (by decide) ?_
      refine j_iadd F d_LA_law_277 ?_
      refine j_val (y := nI (6 * t + 3)) (nI_add (6 * t) 3) ?_
      refine j_sld F hX hbl hbA (by omega) (by omega) d_LA_law_278 ?_
      refine j_aload_n F d_LA_law_279 rfl rfl ?_
      refine j_callH F 5 (c_LA_put hl Kput A5 hB5 hBo ho5 hzo5 (xs (6 * t + 1)) (xs (6 * t + 2)) (xs (6 * t + 3))) wl_LA_67 wst_LA_put wi_LA wcw_LA_put (by decide +kernel) (by decide) rfl rfl (Nat.le_of_ble_eq_true rfl) (by show 20 + 3 * t + 3 ≤ 601024; omega) (by show 8000 + 60 * t + 60 ≤ 7293034; omega) d_LA_law_280 (fun E M1 hx => hx.elim) (fun r M6 hp => ?_)
      obtain ⟨rfl, A6, ⟨g6, ho6, hg6⟩, hf6⟩ := hp
      have B6 := mo_keep B5 (fun q hq => hf6 q (Or.inl hq) (fun z => hoo5 (by rw [← z]; exact hq)))
      obtain ⟨_, _, _, _, _, _, S6⟩ := mo_S_of B6
      refine j_istore F (lv1 := [(5, _), (4, _), (3, _), (2, _), (1, _), (0, _)]) d_LA_law_283 (by decide) rfl ?_
      refine j_aload_n F d_LA_law_285 rfl rfl ?_
      refine j_aload_n F d_LA_law_286 rfl rfl ?_
      refine j_iload F d_LA_law_287 rfl ?_
      refine j_iconst F (v := 1) d_LA_law_289 (by decide) ?_
      refine j_iadd F d_LA_law_290 ?_
      refine j_val (y := nI (6 * t + 1)) (nI_add (6 * t) 1) ?_
      refine j_sld F hX hbl hbA (by omega) (by omega) d_LA_law_291 ?_
      refine j_aload_n F d_LA_law_292 rfl rfl ?_
      refine j_iload F d_LA_law_293 rfl ?_
      refine j_iconst F (v := 2) d_LA_law_295 (by decide) ?_
      refine j_iadd F d_LA_law_296 ?_
      refine j_val (y := nI (6 * t + 2)) (nI_add (6 * t) 2) ?_
      refine j_sld F hX hbl hbA (by omega) (by omega) d_LA_law_297 ?_
      refine j_aload_n F d_LA_law_298 rfl rfl ?_
      refine j_iload F d_LA_law_299 rfl ?_
      refine j_iconst F (v := 3) d_LA_law_301 (by decide) ?_
      refine j_iadd F d_LA_law_302 ?_
      refine j_val (y := nI (6 * t + 3)) (nI_add (6 * t) 3) ?_
      refine j_sld F hX hbl hbA (by omega) (by omega) d_LA_law_303 ?_
      refine j_callV F 3 (c_MO_put hl B6 (xs (6 * t + 1)) (xs (6 * t + 2)) (xs (6 * t + 3))) (so_h S6) rfl wl_LA_70 wim_MO_put wse_MO_put wi_MO wco_MO_put (by decide +kernel) (by decide) rfl rfl (Nat.le_of_ble_eq_true rfl) (by show 20 + 3 * t + 3 + 0 ≤ 601024; omega) (by show 8000 + 60 * t + 60 + 0 ≤ 7293034; omega) d_LA_law_304 (fun E M1 hx => hx.elim) (fun r M7 hp => ?_)
      obtain ⟨rfl, B7⟩ := hp
      obtain ⟨hI7, ho7⟩ := lo_2 hoo5 hzo5 A6 ho6 B7
      obtain ⟨_, _, _, _, _, _, S7⟩ := mo_S_of B7
      refine j_istore F (lv1 := [(6, _), (5, _), (4, _), (3, _), (2, _), (1, _), (0, _)]) d_LA_law_307 (by decide) rfl ?_
      refine j_aload_n F d_LA_law_309 rfl rfl ?_
      refine j_callV F 0 (c_MO_thrown hl S7) (so_h S7) rfl wl_LA_60 wim_MO_thrown wse_MO_thrown wi_MO wco_MO_thrown (by decide +kernel) (by decide) rfl rfl (Nat.le_of_ble_eq_true rfl) (by show 20 + 3 * t + 3 + 0 + 0 ≤ 601024; omega) (by show 8000 + 60 * t + 60 + 0 + 0 ≤ 7293034; omega) d_LA_law_310 (fun E M1 hx => hx.elim) (fun r M8 hp => ?_)
      obtain ⟨rfl, rfl⟩ := hp
      refine j_iload F d_LA_law_313 rfl ?_
      refine j_icmp_eq F (tgt := 320) d_LA_law_315 (by decide) (fun hq => ?_) (fun hq => absurd rfl hq)
      refine j_iload F d_LA_law_320 rfl ?_
      refine j_if_ne F (tgt := 337) d_LA_law_322 (by decide) (fun hq2 => ?_) (fun hq2 => ?_)
      · skip
        refine j_goto F (tgt := 705) d_LA_law_337 (by decide) ?_
        refine j_sub [2, 3, 4, 5, 6] rfl ?_
        exact at705 M7 hI7
      · skip
        have hc0 : (sp_put (xs (6 * t + 1)) (xs (6 * t + 2)) (xs (6 * t + 3)) σ).1 = 0 := co_put hq2
        refine j_aload_n F d_LA_law_325 rfl rfl ?_
        refine j_iconst F (v := 0) d_LA_law_326 (by decide) ?_
        refine j_lald F ho7 in0_1 d_LA_law_327 ?_
        refine j_valL (y := (sp_put (xs (6 * t + 1)) (xs (6 * t + 2)) (xs (6 * t + 3)) σ).2.1.toInt64) (hg6 hc0) ?_
        refine j_iload F d_LA_law_328 rfl ?_
        refine j_i2l F d_LA_law_330 rfl ?_
        refine j_lcmp F d_LA_law_331 ?_
        refine j_val (lg_cmp_self _) ?_
        refine j_if_eq F (tgt := 337) d_LA_law_332 (by decide) (fun hq3 => ?_) (fun hq3 => absurd rfl hq3)
        refine j_goto F (tgt := 705) d_LA_law_337 (by decide) ?_
        refine j_sub [2, 3, 4, 5, 6] rfl ?_
        exact at705 M7 hI7
    by_cases hj3 : j = 3
    · skip
      subst hj3
      refine j_tableIn F (off := 300) (tgt := 340) d_LA_law_40 (by rw [hjt]; decide) (by rw [hjt]; decide) (by rw [hjt]; rfl) (by decide) ?_
      refine j_aload_n F d_LA_law_340 rfl rfl ?_
      refine j_aload_n F d_LA_law_341 rfl rfl ?_
      refine j_iload F d_LA_law_342 rfl ?_
      refine j_iconst F (v := 1) d_LA_law_344 (by decide) ?_
      refine j_iadd F d_LA_law_345 ?_
      refine j_val (y := nI (6 * t + 1)) (nI_add (6 * t) 1) ?_
      refine j_sld F hX hbl hbA (by omega) (by omega) d_LA_law_346 ?_
      refine j_aload_n F d_LA_law_347 rfl rfl ?_
      refine j_callH F 3 (c_LA_find hl Kfind A5 hB5 hBo ho5 hzo5 (xs (6 * t + 1))) wl_LA_71 wst_LA_find wi_LA wcw_LA_find (by decide +kernel) (by decide) rfl rfl (Nat.le_of_ble_eq_true rfl) (by show 20 + 3 * t + 3 ≤ 601024; omega) (by show 8000 + 60 * t + 60 ≤ 7293034; omega) d_LA_law_348 (fun E M1 hx => hx.elim) (fun r M6 hp => ?_)
      obtain ⟨rfl, A6, ⟨g6, ho6, hg6⟩, hf6⟩ := hp
      have B6 := mo_keep B5 (fun q hq => hf6 q (Or.inl hq) (fun z => hoo5 (by rw [← z]; exact hq)))
      obtain ⟨_, _, _, _, _, _, S6⟩ := mo_S_of B6
      refine j_istore F (lv1 := [(5, _), (4, _), (3, _), (2, _), (1, _), (0, _)]) d_LA_law_351 (by decide) rfl ?_
      refine j_aload_n F d_LA_law_353 rfl rfl ?_
      refine j_aload_n F d_LA_law_354 rfl rfl ?_
      refine j_iload F d_LA_law_355 rfl ?_
      refine j_iconst F (v := 1) d_LA_law_357 (by decide) ?_
      refine j_iadd F d_LA_law_358 ?_
      refine j_val (y := nI (6 * t + 1)) (nI_add (6 * t) 1) ?_
      refine j_sld F hX hbl hbA (by omega) (by omega) d_LA_law_359 ?_
      refine j_callV F 1 (c_MO_find hl B6 (xs (6 * t + 1))) (so_h S6) rfl wl_LA_73 wim_MO_find wse_MO_find wi_MO wco_MO_find (by decide +kernel) (by decide) rfl rfl (Nat.le_of_ble_eq_true rfl) (by show 20 + 3 * t + 3 + 0 ≤ 601024; omega) (by show 8000 + 60 * t + 60 + 0 ≤ 7293034; omega) d_LA_law_360 (fun E M1 hx => hx.elim) (fun r M7 hp => ?_)
      obtain ⟨rfl, B7⟩ := hp
      obtain ⟨hI7, ho7⟩ := lo_2 hoo5 hzo5 A6 ho6 B7
      obtain ⟨_, _, _, _, _, _, S7⟩ := mo_S_of B7
      refine j_istore F (lv1 := [(6, _), (5, _), (4, _), (3, _), (2, _), (1, _), (0, _)]) d_LA_law_363 (by decide) rfl ?_
      refine j_aload_n F d_LA_law_365 rfl rfl ?_
      refine j_callV F 0 (c_MO_thrown hl S7) (so_h S7) rfl wl_LA_60 wim_MO_thrown wse_MO_thrown wi_MO wco_MO_thrown (by decide +kernel) (by decide) rfl rfl (Nat.le_of_ble_eq_true rfl) (by show 20 + 3 * t + 3 + 0 + 0 ≤ 601024; omega) (by show 8000 + 60 * t + 60 + 0 + 0 ≤ 7293034; omega) d_LA_law_366 (fun E M1 hx => hx.elim) (fun r M8 hp => ?_)
      obtain ⟨rfl, rfl⟩ := hp
      refine j_iload F d_LA_law_369 rfl ?_
      refine j_icmp_eq F (tgt := 376) d_LA_law_371 (by decide) (fun hq => ?_) (fun hq => absurd rfl hq)
      refine j_iload F d_LA_law_376 rfl ?_
      refine j_if_ne F (tgt := 393) d_LA_law_378 (by decide) (fun hq2 => ?_) (fun hq2 => ?_)
      · skip
        refine j_goto F (tgt := 705) d_LA_law_393 (by decide) ?_
        refine j_sub [2, 3, 4, 5, 6] rfl ?_
        exact at705 M7 hI7
      · skip
        have hc0 : (sp_find (xs (6 * t + 1)) σ).1 = 0 := co_find hq2
        refine j_aload_n F d_LA_law_381 rfl rfl ?_
        refine j_iconst F (v := 0) d_LA_law_382 (by decide) ?_
        refine j_lald F ho7 in0_1 d_LA_law_383 ?_
        refine j_valL (y := (sp_find (xs (6 * t + 1)) σ).2.1.toInt64) (hg6 hc0) ?_
        refine j_iload F d_LA_law_384 rfl ?_
        refine j_i2l F d_LA_law_386 rfl ?_
        refine j_lcmp F d_LA_law_387 ?_
        refine j_val (lg_cmp_self _) ?_
        refine j_if_eq F (tgt := 393) d_LA_law_388 (by decide) (fun hq3 => ?_) (fun hq3 => absurd rfl hq3)
        refine j_goto F (tgt := 705) d_LA_law_393 (by decide) ?_
        refine j_sub [2, 3, 4, 5, 6] rfl ?_
        exact at705 M7 hI7
    by_cases hj4 : j = 4
    · skip
      subst hj4
      refine j_tableIn F (off := 356) (tgt := 396) d_LA_law_40 (by rw [hjt]; decide) (by rw [hjt]; decide) (by rw [hjt]; rfl) (by decide) ?_
      refine j_aload_n F d_LA_law_396 rfl rfl ?_
      refine j_aload_n F d_LA_law_397 rfl rfl ?_
      refine j_iload F d_LA_law_398 rfl ?_
      refine j_iconst F (v := 1) d_LA_law_400 (by decide) ?_
      refine j_iadd F d_LA_law_401 ?_
      refine j_val (y := nI (6 * t + 1)) (nI_add (6 * t) 1) ?_
      refine j_sld F hX hbl hbA (by omega) (by omega) d_LA_law_402 ?_
      refine j_aload_n F d_LA_law_403 rfl rfl ?_
      refine j_iload F d_LA_law_404 rfl ?_
      refine j_iconst F (v := 2) d_LA_law_406 (by decide) ?_
      refine j_iadd F d_LA_law_407 ?_
      refine j_val (y := nI (6 * t + 2)) (nI_add (6 * t) 2) ?_
      refine j_sld F hX hbl hbA (by omega) (by omega) d_LA_law_408 ?_
      refine j_cut (α := Unit) (fun _ => True) (fun _ => M5) (fun _ => 20 + 3 * t) (fun _ => 8000 + 60 * t) (fun _ => [(4, .int (nI (6 * t))), (3, .ref oo), (2, .ref h), (1, .ref x), (0, .ref b)]) 417 (fun _ => [.int (if decide (¬ xs (6 * t + 2) = 0) then 1 else 0), .int (xs (6 * t + 1)), .ref x]) ?_ (fun at417 => ?_)
      · skip
        intro _ _
        refine j_aload_n F d_LA_law_417 rfl rfl ?_
        refine j_callH F 4 (c_LA_seek hl Kseek A5 hB5 hBo ho5 hzo5 (xs (6 * t + 1)) (decide (¬ xs (6 * t + 2) = 0))) wl_LA_74 wst_LA_seek wi_LA wcw_LA_seek (by decide +kernel) (by decide) rfl rfl (Nat.le_of_ble_eq_true rfl) (by show 20 + 3 * t + 3 ≤ 601024; omega) (by show 8000 + 60 * t + 60 ≤ 7293034; omega) d_LA_law_418 (fun E M1 hx => hx.elim) (fun r M6 hp => ?_)
        obtain ⟨rfl, A6, ⟨g6, ho6, hg6⟩, hf6⟩ := hp
        have B6 := mo_keep B5 (fun q hq => hf6 q (Or.inl hq) (fun z => hoo5 (by rw [← z]; exact hq)))
        obtain ⟨_, _, _, _, _, _, S6⟩ := mo_S_of B6
        refine j_istore F (lv1 := [(5, _), (4, _), (3, _), (2, _), (1, _), (0, _)]) d_LA_law_421 (by decide) rfl ?_
        refine j_aload_n F d_LA_law_423 rfl rfl ?_
        refine j_aload_n F d_LA_law_424 rfl rfl ?_
        refine j_iload F d_LA_law_425 rfl ?_
        refine j_iconst F (v := 1) d_LA_law_427 (by decide) ?_
        refine j_iadd F d_LA_law_428 ?_
        refine j_val (y := nI (6 * t + 1)) (nI_add (6 * t) 1) ?_
        refine j_sld F hX hbl hbA (by omega) (by omega) d_LA_law_429 ?_
        refine j_aload_n F d_LA_law_430 rfl rfl ?_
        refine j_iload F d_LA_law_431 rfl ?_
        refine j_iconst F (v := 2) d_LA_law_433 (by decide) ?_
        refine j_iadd F d_LA_law_434 ?_
        refine j_val (y := nI (6 * t + 2)) (nI_add (6 * t) 2) ?_
        refine j_sld F hX hbl hbA (by omega) (by omega) d_LA_law_435 ?_
        refine j_cut (α := Unit) (fun _ => True) (fun _ => M6) (fun _ => 20 + 3 * t + 3) (fun _ => 8000 + 60 * t + 60) (fun _ => [(5, .int (nI (sp_seek (xs (6 * t + 1)) (decide (¬ xs (6 * t + 2) = 0)) σ).1)), (4, .int (nI (6 * t))), (3, .ref oo), (2, .ref h), (1, .ref x), (0, .ref b)]) 444 (fun _ => [.int (if decide (¬ xs (6 * t + 2) = 0) then 1 else 0), .int (xs (6 * t + 1)), .ref h]) ?_ (fun at444 => ?_)
        · skip
          intro _ _
          refine j_callV F 2 (c_MO_seek hl B6 (xs (6 * t + 1)) (decide (¬ xs (6 * t + 2) = 0))) (so_h S6) rfl wl_LA_77 wim_MO_seek wse_MO_seek wi_MO wco_MO_seek (by decide +kernel) (by decide) rfl rfl (Nat.le_of_ble_eq_true rfl) (by show 20 + 3 * t + 3 + 0 ≤ 601024; omega) (by show 8000 + 60 * t + 60 + 0 ≤ 7293034; omega) d_LA_law_444 (fun E M1 hx => hx.elim) (fun r M7 hp => ?_)
          obtain ⟨rfl, B7⟩ := hp
          obtain ⟨hI7, ho7⟩ := lo_2 hoo5 hzo5 A6 ho6 B7
          obtain ⟨_, _, _, _, _, _, S7⟩ := mo_S_of B7
          refine j_istore F (lv1 := [(6, _), (5, _), (4, _), (3, _), (2, _), (1, _), (0, _)]) d_LA_law_447 (by decide) rfl ?_
          refine j_aload_n F d_LA_law_449 rfl rfl ?_
          refine j_callV F 0 (c_MO_thrown hl S7) (so_h S7) rfl wl_LA_60 wim_MO_thrown wse_MO_thrown wi_MO wco_MO_thrown (by decide +kernel) (by decide) rfl rfl (Nat.le_of_ble_eq_true rfl) (by show 20 + 3 * t + 3 + 0 + 0 ≤ 601024; omega) (by show 8000 + 60 * t + 60 + 0 + 0 ≤ 7293034; omega) d_LA_law_450 (fun E M1 hx => hx.elim) (fun r M8 hp => ?_)
          obtain ⟨rfl, rfl⟩ := hp
          refine j_iload F d_LA_law_453 rfl ?_
          refine j_icmp_eq F (tgt := 460) d_LA_law_455 (by decide) (fun hq => ?_) (fun hq => absurd rfl hq)
          refine j_iload F d_LA_law_460 rfl ?_
          refine j_if_ne F (tgt := 477) d_LA_law_462 (by decide) (fun hq2 => ?_) (fun hq2 => ?_)
          · skip
            refine j_goto F (tgt := 705) d_LA_law_477 (by decide) ?_
            refine j_sub [2, 3, 4, 5, 6] rfl ?_
            exact at705 M7 hI7
          · skip
            have hc0 : (sp_seek (xs (6 * t + 1)) (decide (¬ xs (6 * t + 2) = 0)) σ).1 = 0 := co_seek hq2
            refine j_aload_n F d_LA_law_465 rfl rfl ?_
            refine j_iconst F (v := 0) d_LA_law_466 (by decide) ?_
            refine j_lald F ho7 in0_1 d_LA_law_467 ?_
            refine j_valL (y := (sp_seek (xs (6 * t + 1)) (decide (¬ xs (6 * t + 2) = 0)) σ).2.1.toInt64) (hg6 hc0) ?_
            refine j_iload F d_LA_law_468 rfl ?_
            refine j_i2l F d_LA_law_470 rfl ?_
            refine j_lcmp F d_LA_law_471 ?_
            refine j_val (lg_cmp_self _) ?_
            refine j_if_eq F (tgt := 477) d_LA_law_472 (by decide) (fun hq3 => ?_) (fun hq3 => absurd rfl hq3)
            refine j_goto F (tgt := 705) d_LA_law_477 (by decide) ?_
            refine j_sub [2, 3, 4, 5, 6] rfl ?_
            exact at705 M7 hI7
        refine j_if_eq F (tgt := 443) d_LA_law_436 (by decide) (fun hs0 => ?_) (fun hs0 => ?_)
        · skip
          have hd0 : decide (¬ xs (6 * t + 2) = 0) = false := by simp [hs0]
          refine j_iconst F (v := 0) d_LA_law_443 (by decide) ?_
          refine j_val (y := if decide (¬ xs (6 * t + 2) = 0) then 1 else 0) (by rw [hd0]; rfl) ?_
          exact at444 () trivial
        · skip
          have hd0 : decide (¬ xs (6 * t + 2) = 0) = true := by simp [hs0]
          refine j_iconst F (v := 1) d_LA_law_439 (by decide) ?_
          refine j_goto F (tgt := 444) d_LA_law_440 (by decide) ?_
          refine j_val (y := if decide (¬ xs (6 * t + 2) = 0) then 1 else 0) (by rw [hd0]; rfl) ?_
          exact at444 () trivial
      refine j_if_eq F (tgt := 416) d_LA_law_409 (by decide) (fun hs0 => ?_) (fun hs0 => ?_)
      · skip
        have hd0 : decide (¬ xs (6 * t + 2) = 0) = false := by simp [hs0]
        rw [hd0] at at417
        refine j_iconst F (v := 0) d_LA_law_416 (by decide) ?_
        exact at417 () trivial
      · skip
        have hd0 : decide (¬ xs (6 * t + 2) = 0) = true := by simp [hs0]
        rw [hd0] at at417
        refine j_iconst F (v := 1) d_LA_law_412 (by decide) ?_
        refine j_goto F (tgt := 417) d_LA_law_413 (by decide) ?_
        exact at417 () trivial
    by_cases hj5 : j = 5
    · skip
      subst hj5
      refine j_tableIn F (off := 440) (tgt := 480) d_LA_law_40 (by rw [hjt]; decide) (by rw [hjt]; decide) (by rw [hjt]; rfl) (by decide) ?_
      refine j_aload_n F d_LA_law_480 rfl rfl ?_
      refine j_aload_n F d_LA_law_481 rfl rfl ?_
      refine j_callH F 2 (c_LA_next hl Knext A5 hB5 hBo ho5 hzo5 ) wl_LA_78 wst_LA_next wi_LA wcw_LA_next (by decide +kernel) (by decide) rfl rfl (Nat.le_of_ble_eq_true rfl) (by show 20 + 3 * t + 3 ≤ 601024; omega) (by show 8000 + 60 * t + 60 ≤ 7293034; omega) d_LA_law_482 (fun E M1 hx => hx.elim) (fun r M6 hp => ?_)
      obtain ⟨rfl, A6, ⟨g6, ho6, hg6⟩, hf6⟩ := hp
      have B6 := mo_keep B5 (fun q hq => hf6 q (Or.inl hq) (fun z => hoo5 (by rw [← z]; exact hq)))
      obtain ⟨_, _, _, _, _, _, S6⟩ := mo_S_of B6
      refine j_istore F (lv1 := [(5, _), (4, _), (3, _), (2, _), (1, _), (0, _)]) d_LA_law_485 (by decide) rfl ?_
      refine j_aload_n F d_LA_law_487 rfl rfl ?_
      refine j_callV F 0 (c_MO_next hl B6 ) (so_h S6) rfl wl_LA_81 wim_MO_next wse_MO_next wi_MO wco_MO_next (by decide +kernel) (by decide) rfl rfl (Nat.le_of_ble_eq_true rfl) (by show 20 + 3 * t + 3 + 0 ≤ 601024; omega) (by show 8000 + 60 * t + 60 + 0 ≤ 7293034; omega) d_LA_law_488 (fun E M1 hx => hx.elim) (fun r M7 hp => ?_)
      obtain ⟨rfl, B7⟩ := hp
      obtain ⟨hI7, ho7⟩ := lo_2 hoo5 hzo5 A6 ho6 B7
      obtain ⟨_, _, _, _, _, _, S7⟩ := mo_S_of B7
      refine j_istore F (lv1 := [(6, _), (5, _), (4, _), (3, _), (2, _), (1, _), (0, _)]) d_LA_law_491 (by decide) rfl ?_
      refine j_aload_n F d_LA_law_493 rfl rfl ?_
      refine j_callV F 0 (c_MO_thrown hl S7) (so_h S7) rfl wl_LA_60 wim_MO_thrown wse_MO_thrown wi_MO wco_MO_thrown (by decide +kernel) (by decide) rfl rfl (Nat.le_of_ble_eq_true rfl) (by show 20 + 3 * t + 3 + 0 + 0 ≤ 601024; omega) (by show 8000 + 60 * t + 60 + 0 + 0 ≤ 7293034; omega) d_LA_law_494 (fun E M1 hx => hx.elim) (fun r M8 hp => ?_)
      obtain ⟨rfl, rfl⟩ := hp
      refine j_iload F d_LA_law_497 rfl ?_
      refine j_icmp_eq F (tgt := 504) d_LA_law_499 (by decide) (fun hq => ?_) (fun hq => absurd rfl hq)
      refine j_iload F d_LA_law_504 rfl ?_
      refine j_if_ne F (tgt := 521) d_LA_law_506 (by decide) (fun hq2 => ?_) (fun hq2 => ?_)
      · skip
        refine j_goto F (tgt := 705) d_LA_law_521 (by decide) ?_
        refine j_sub [2, 3, 4, 5, 6] rfl ?_
        exact at705 M7 hI7
      · skip
        have hc0 : (sp_next  σ).1 = 0 := co_next hq2
        refine j_aload_n F d_LA_law_509 rfl rfl ?_
        refine j_iconst F (v := 0) d_LA_law_510 (by decide) ?_
        refine j_lald F ho7 in0_1 d_LA_law_511 ?_
        refine j_valL (y := (sp_next  σ).2.1.toInt64) (hg6 hc0) ?_
        refine j_iload F d_LA_law_512 rfl ?_
        refine j_i2l F d_LA_law_514 rfl ?_
        refine j_lcmp F d_LA_law_515 ?_
        refine j_val (lg_cmp_self _) ?_
        refine j_if_eq F (tgt := 521) d_LA_law_516 (by decide) (fun hq3 => ?_) (fun hq3 => absurd rfl hq3)
        refine j_goto F (tgt := 705) d_LA_law_521 (by decide) ?_
        refine j_sub [2, 3, 4, 5, 6] rfl ?_
        exact at705 M7 hI7
    by_cases hj6 : j = 6
    · skip
      subst hj6
      refine j_tableIn F (off := 484) (tgt := 524) d_LA_law_40 (by rw [hjt]; decide) (by rw [hjt]; decide) (by rw [hjt]; rfl) (by decide) ?_
      refine j_aload_n F d_LA_law_524 rfl rfl ?_
      refine j_aload_n F d_LA_law_525 rfl rfl ?_
      refine j_callH F 2 (c_LA_first hl Kfirst A5 hB5 hBo ho5 hzo5 ) wl_LA_82 wst_LA_first wi_LA wcw_LA_first (by decide +kernel) (by decide) rfl rfl (Nat.le_of_ble_eq_true rfl) (by show 20 + 3 * t + 3 ≤ 601024; omega) (by show 8000 + 60 * t + 60 ≤ 7293034; omega) d_LA_law_526 (fun E M1 hx => hx.elim) (fun r M6 hp => ?_)
      obtain ⟨rfl, A6, ⟨g6, ho6, hg6⟩, hf6⟩ := hp
      have B6 := mo_keep B5 (fun q hq => hf6 q (Or.inl hq) (fun z => hoo5 (by rw [← z]; exact hq)))
      obtain ⟨_, _, _, _, _, _, S6⟩ := mo_S_of B6
      refine j_istore F (lv1 := [(5, _), (4, _), (3, _), (2, _), (1, _), (0, _)]) d_LA_law_529 (by decide) rfl ?_
      refine j_aload_n F d_LA_law_531 rfl rfl ?_
      refine j_callV F 0 (c_MO_first hl B6 ) (so_h S6) rfl wl_LA_84 wim_MO_first wse_MO_first wi_MO wco_MO_first (by decide +kernel) (by decide) rfl rfl (Nat.le_of_ble_eq_true rfl) (by show 20 + 3 * t + 3 + 0 ≤ 601024; omega) (by show 8000 + 60 * t + 60 + 0 ≤ 7293034; omega) d_LA_law_532 (fun E M1 hx => hx.elim) (fun r M7 hp => ?_)
      obtain ⟨rfl, B7⟩ := hp
      obtain ⟨hI7, ho7⟩ := lo_2 hoo5 hzo5 A6 ho6 B7
      obtain ⟨_, _, _, _, _, _, S7⟩ := mo_S_of B7
      refine j_istore F (lv1 := [(6, _), (5, _), (4, _), (3, _), (2, _), (1, _), (0, _)]) d_LA_law_535 (by decide) rfl ?_
      refine j_aload_n F d_LA_law_537 rfl rfl ?_
      refine j_callV F 0 (c_MO_thrown hl S7) (so_h S7) rfl wl_LA_60 wim_MO_thrown wse_MO_thrown wi_MO wco_MO_thrown (by decide +kernel) (by decide) rfl rfl (Nat.le_of_ble_eq_true rfl) (by show 20 + 3 * t + 3 + 0 + 0 ≤ 601024; omega) (by show 8000 + 60 * t + 60 + 0 + 0 ≤ 7293034; omega) d_LA_law_538 (fun E M1 hx => hx.elim) (fun r M8 hp => ?_)
      obtain ⟨rfl, rfl⟩ := hp
      refine j_iload F d_LA_law_541 rfl ?_
      refine j_icmp_eq F (tgt := 548) d_LA_law_543 (by decide) (fun hq => ?_) (fun hq => absurd rfl hq)
      refine j_iload F d_LA_law_548 rfl ?_
      refine j_if_ne F (tgt := 565) d_LA_law_550 (by decide) (fun hq2 => ?_) (fun hq2 => ?_)
      · skip
        refine j_goto F (tgt := 705) d_LA_law_565 (by decide) ?_
        refine j_sub [2, 3, 4, 5, 6] rfl ?_
        exact at705 M7 hI7
      · skip
        have hc0 : (sp_first  σ).1 = 0 := co_first hq2
        refine j_aload_n F d_LA_law_553 rfl rfl ?_
        refine j_iconst F (v := 0) d_LA_law_554 (by decide) ?_
        refine j_lald F ho7 in0_1 d_LA_law_555 ?_
        refine j_valL (y := (sp_first  σ).2.1.toInt64) (hg6 hc0) ?_
        refine j_iload F d_LA_law_556 rfl ?_
        refine j_i2l F d_LA_law_558 rfl ?_
        refine j_lcmp F d_LA_law_559 ?_
        refine j_val (lg_cmp_self _) ?_
        refine j_if_eq F (tgt := 565) d_LA_law_560 (by decide) (fun hq3 => ?_) (fun hq3 => absurd rfl hq3)
        refine j_goto F (tgt := 705) d_LA_law_565 (by decide) ?_
        refine j_sub [2, 3, 4, 5, 6] rfl ?_
        exact at705 M7 hI7
    by_cases hj7 : j = 7
    · skip
      subst hj7
      refine j_tableIn F (off := 528) (tgt := 568) d_LA_law_40 (by rw [hjt]; decide) (by rw [hjt]; decide) (by rw [hjt]; rfl) (by decide) ?_
      refine j_aload_n F d_LA_law_568 rfl rfl ?_
      refine j_aload_n F d_LA_law_569 rfl rfl ?_
      refine j_iload F d_LA_law_570 rfl ?_
      refine j_iconst F (v := 1) d_LA_law_572 (by decide) ?_
      refine j_iadd F d_LA_law_573 ?_
      refine j_val (y := nI (6 * t + 1)) (nI_add (6 * t) 1) ?_
      refine j_sld F hX hbl hbA (by omega) (by omega) d_LA_law_574 ?_
      refine j_aload_n F d_LA_law_575 rfl rfl ?_
      refine j_callH F 3 (c_LA_current hl Kcurrent A5 hB5 hBo ho5 hzo5 (xs (6 * t + 1))) wl_LA_85 wst_LA_current wi_LA wcw_LA_current (by decide +kernel) (by decide) rfl rfl (Nat.le_of_ble_eq_true rfl) (by show 20 + 3 * t + 3 ≤ 601024; omega) (by show 8000 + 60 * t + 60 ≤ 7293034; omega) d_LA_law_576 (fun E M1 hx => hx.elim) (fun r M6 hp => ?_)
      obtain ⟨rfl, A6, ⟨g6, ho6, hg6⟩, hf6⟩ := hp
      have B6 := mo_keep B5 (fun q hq => hf6 q (Or.inl hq) (fun z => hoo5 (by rw [← z]; exact hq)))
      obtain ⟨_, _, _, _, _, _, S6⟩ := mo_S_of B6
      refine j_istore F (lv1 := [(5, _), (4, _), (3, _), (2, _), (1, _), (0, _)]) d_LA_law_579 (by decide) rfl ?_
      refine j_aload_n F d_LA_law_581 rfl rfl ?_
      refine j_aload_n F d_LA_law_582 rfl rfl ?_
      refine j_iload F d_LA_law_583 rfl ?_
      refine j_iconst F (v := 1) d_LA_law_585 (by decide) ?_
      refine j_iadd F d_LA_law_586 ?_
      refine j_val (y := nI (6 * t + 1)) (nI_add (6 * t) 1) ?_
      refine j_sld F hX hbl hbA (by omega) (by omega) d_LA_law_587 ?_
      refine j_callV F 1 (c_MO_current hl B6 (xs (6 * t + 1))) (so_h S6) rfl wl_LA_87 wim_MO_current wse_MO_current wi_MO wco_MO_current (by decide +kernel) (by decide) rfl rfl (Nat.le_of_ble_eq_true rfl) (by show 20 + 3 * t + 3 + 0 ≤ 601024; omega) (by show 8000 + 60 * t + 60 + 0 ≤ 7293034; omega) d_LA_law_588 (fun E M1 hx => hx.elim) (fun r M7 hp => ?_)
      obtain ⟨rfl, B7⟩ := hp
      obtain ⟨hI7, ho7⟩ := lo_2 hoo5 hzo5 A6 ho6 B7
      obtain ⟨_, _, _, _, _, _, S7⟩ := mo_S_of B7
      refine j_istore F (lv1 := [(6, _), (5, _), (4, _), (3, _), (2, _), (1, _), (0, _)]) d_LA_law_591 (by decide) rfl ?_
      refine j_aload_n F d_LA_law_593 rfl rfl ?_
      refine j_callV F 0 (c_MO_thrown hl S7) (so_h S7) rfl wl_LA_60 wim_MO_thrown wse_MO_thrown wi_MO wco_MO_thrown (by decide +kernel) (by decide) rfl rfl (Nat.le_of_ble_eq_true rfl) (by show 20 + 3 * t + 3 + 0 + 0 ≤ 601024; omega) (by show 8000 + 60 * t + 60 + 0 + 0 ≤ 7293034; omega) d_LA_law_594 (fun E M1 hx => hx.elim) (fun r M8 hp => ?_)
      obtain ⟨rfl, rfl⟩ := hp
      refine j_iload F d_LA_law_597 rfl ?_
      refine j_icmp_eq F (tgt := 604) d_LA_law_599 (by decide) (fun hq => ?_) (fun hq => absurd rfl hq)
      refine j_iload F d_LA_law_604 rfl ?_
      refine j_if_ne F (tgt := 621) d_LA_law_606 (by decide) (fun hq2 => ?_) (fun hq2 => ?_)
      · skip
        refine j_goto F (tgt := 705) d_LA_law_621 (by decide) ?_
        refine j_sub [2, 3, 4, 5, 6] rfl ?_
        exact at705 M7 hI7
      · skip
        have hc0 : (sp_current (xs (6 * t + 1)) σ).1 = 0 := co_current hq2
        refine j_aload_n F d_LA_law_609 rfl rfl ?_
        refine j_iconst F (v := 0) d_LA_law_610 (by decide) ?_
        refine j_lald F ho7 in0_1 d_LA_law_611 ?_
        refine j_valL (y := (sp_current (xs (6 * t + 1)) σ).2.1.toInt64) (hg6 hc0) ?_
        refine j_iload F d_LA_law_612 rfl ?_
        refine j_i2l F d_LA_law_614 rfl ?_
        refine j_lcmp F d_LA_law_615 ?_
        refine j_val (lg_cmp_self _) ?_
        refine j_if_eq F (tgt := 621) d_LA_law_616 (by decide) (fun hq3 => ?_) (fun hq3 => absurd rfl hq3)
        refine j_goto F (tgt := 705) d_LA_law_621 (by decide) ?_
        refine j_sub [2, 3, 4, 5, 6] rfl ?_
        exact at705 M7 hI7
    by_cases hj8 : j = 8
    · skip
      subst hj8
      refine j_tableIn F (off := 584) (tgt := 624) d_LA_law_40 (by rw [hjt]; decide) (by rw [hjt]; decide) (by rw [hjt]; rfl) (by decide) ?_
      refine j_aload_n F d_LA_law_624 rfl rfl ?_
      refine j_aload_n F d_LA_law_625 rfl rfl ?_
      refine j_iload F d_LA_law_626 rfl ?_
      refine j_iconst F (v := 1) d_LA_law_628 (by decide) ?_
      refine j_iadd F d_LA_law_629 ?_
      refine j_val (y := nI (6 * t + 1)) (nI_add (6 * t) 1) ?_
      refine j_sld F hX hbl hbA (by omega) (by omega) d_LA_law_630 ?_
      refine j_aload_n F d_LA_law_631 rfl rfl ?_
      refine j_callH F 3 (c_LA_word hl Kword A5 hB5 hBo ho5 hzo5 (xs (6 * t + 1))) wl_LA_88 wst_LA_word wi_LA wcw_LA_word (by decide +kernel) (by decide) rfl rfl (Nat.le_of_ble_eq_true rfl) (by show 20 + 3 * t + 3 ≤ 601024; omega) (by show 8000 + 60 * t + 60 ≤ 7293034; omega) d_LA_law_632 (fun E M1 hx => hx.elim) (fun r M6 hp => ?_)
      obtain ⟨rfl, A6, ⟨g6, ho6, hg6⟩, hf6⟩ := hp
      have B6 := mo_keep B5 (fun q hq => hf6 q (Or.inl hq) (fun z => hoo5 (by rw [← z]; exact hq)))
      obtain ⟨_, _, _, _, _, _, S6⟩ := mo_S_of B6
      refine j_istore F (lv1 := [(5, _), (4, _), (3, _), (2, _), (1, _), (0, _)]) d_LA_law_635 (by decide) rfl ?_
      refine j_aload_n F d_LA_law_637 rfl rfl ?_
      refine j_aload_n F d_LA_law_638 rfl rfl ?_
      refine j_iload F d_LA_law_639 rfl ?_
      refine j_iconst F (v := 1) d_LA_law_641 (by decide) ?_
      refine j_iadd F d_LA_law_642 ?_
      refine j_val (y := nI (6 * t + 1)) (nI_add (6 * t) 1) ?_
      refine j_sld F hX hbl hbA (by omega) (by omega) d_LA_law_643 ?_
      refine j_callV F 1 (c_MO_word hl B6 (xs (6 * t + 1))) (so_h S6) rfl wl_LA_90 wim_MO_word wse_MO_word wi_MO wco_MO_word (by decide +kernel) (by decide) rfl rfl (Nat.le_of_ble_eq_true rfl) (by show 20 + 3 * t + 3 + 0 ≤ 601024; omega) (by show 8000 + 60 * t + 60 + 0 ≤ 7293034; omega) d_LA_law_644 (fun E M1 hx => hx.elim) (fun r M7 hp => ?_)
      obtain ⟨rfl, B7⟩ := hp
      obtain ⟨hI7, ho7⟩ := lo_2 hoo5 hzo5 A6 ho6 B7
      obtain ⟨_, _, _, _, _, _, S7⟩ := mo_S_of B7
      refine j_lstore F (lv1 := [(6, _), (5, _), (4, _), (3, _), (2, _), (1, _), (0, _)]) d_LA_law_647 (by decide) rfl ?_
      refine j_aload_n F d_LA_law_649 rfl rfl ?_
      refine j_callV F 0 (c_MO_thrown hl S7) (so_h S7) rfl wl_LA_60 wim_MO_thrown wse_MO_thrown wi_MO wco_MO_thrown (by decide +kernel) (by decide) rfl rfl (Nat.le_of_ble_eq_true rfl) (by show 20 + 3 * t + 3 + 0 + 0 ≤ 601024; omega) (by show 8000 + 60 * t + 60 + 0 + 0 ≤ 7293034; omega) d_LA_law_650 (fun E M1 hx => hx.elim) (fun r M8 hp => ?_)
      obtain ⟨rfl, rfl⟩ := hp
      refine j_iload F d_LA_law_653 rfl ?_
      refine j_icmp_eq F (tgt := 660) d_LA_law_655 (by decide) (fun hq => ?_) (fun hq => absurd rfl hq)
      refine j_iload F d_LA_law_660 rfl ?_
      refine j_if_ne F (tgt := 676) d_LA_law_662 (by decide) (fun hq2 => ?_) (fun hq2 => ?_)
      · skip
        refine j_goto F (tgt := 705) d_LA_law_676 (by decide) ?_
        refine j_sub [2, 3, 4, 5, 6] rfl ?_
        exact at705 M7 hI7
      · skip
        have hc0 : (sp_word (xs (6 * t + 1)) σ).1 = 0 := co_word hq2
        refine j_aload_n F d_LA_law_665 rfl rfl ?_
        refine j_iconst F (v := 0) d_LA_law_666 (by decide) ?_
        refine j_lald F ho7 in0_1 d_LA_law_667 ?_
        refine j_valL (y := (sp_word (xs (6 * t + 1)) σ).2.1) (hg6 hc0) ?_
        refine j_lload F d_LA_law_668 rfl ?_
        refine j_lcmp F d_LA_law_670 ?_
        refine j_val (lg_cmp_self _) ?_
        refine j_if_eq F (tgt := 676) d_LA_law_671 (by decide) (fun hq3 => ?_) (fun hq3 => absurd rfl hq3)
        refine j_goto F (tgt := 705) d_LA_law_676 (by decide) ?_
        refine j_sub [2, 3, 4, 5, 6] rfl ?_
        exact at705 M7 hI7
    by_cases hj9 : j = 9
    · skip
      subst hj9
      refine j_tableIn F (off := 639) (tgt := 679) d_LA_law_40 (by rw [hjt]; decide) (by rw [hjt]; decide) (by rw [hjt]; rfl) (by decide) ?_
      refine j_aload_n F d_LA_law_679 rfl rfl ?_
      have A50 := A5
      obtain ⟨_, _, _, _, _, _, hx5, -⟩ := A50
      refine j_callV F 0 (Kclear M5 _ x σ A5 hB5) hx5 rfl wl_LA_91 wim_MT_clear wse_MT_clear wi_MT wco_MT_clear (by decide +kernel) (by decide) rfl rfl (Nat.le_of_ble_eq_true rfl) (by show 20 + 3 * t + 3 ≤ 601024; omega) (by show 8000 + 60 * t + 60 ≤ 7293034; omega) d_LA_law_680 (fun E M1 hx => hx.elim) (fun r M6 hp => ?_)
      obtain ⟨-, rfl, A6, hf6⟩ := hp
      have B6 := mo_keep B5 (fun q hq => hf6 q (Or.inl hq))
      have ho6 := (hf6 oo hBo).trans ho5
      obtain ⟨_, _, _, _, _, _, S6⟩ := mo_S_of B6
      refine j_aload_n F d_LA_law_683 rfl rfl ?_
      refine j_callV F 0 (c_MO_clear hl B6) (so_h S6) rfl wl_LA_94 wim_MO_clear wse_MO_clear wi_MO wco_MO_clear (by decide +kernel) (by decide) rfl rfl (Nat.le_of_ble_eq_true rfl) (by show 20 + 3 * t + 3 + 0 ≤ 601024; omega) (by show 8000 + 60 * t + 60 + 0 ≤ 7293034; omega) d_LA_law_684 (fun E M1 hx => hx.elim) (fun r M7 hp => ?_)
      obtain ⟨rfl, B7⟩ := hp
      obtain ⟨hI7, -⟩ := lo_2 hoo5 hzo5 A6 ho6 B7
      refine j_icmp_eq F (tgt := 705) d_LA_law_687 (by decide) (fun hq => ?_) (fun hq => absurd rfl hq)
      exact at705 M7 hI7
    by_cases hj10 : j = 10
    · skip
      subst hj10
      refine j_tableIn F (off := 652) (tgt := 692) d_LA_law_40 (by rw [hjt]; decide) (by rw [hjt]; decide) (by rw [hjt]; rfl) (by decide) ?_
      refine j_aload_n F d_LA_law_692 rfl rfl ?_
      have A50 := A5
      obtain ⟨_, _, _, _, _, _, hx5, -⟩ := A50
      refine j_callV F 0 (Kcount M5 _ x σ A5 hB5) hx5 rfl wl_LA_95 wim_MT_count wse_MT_count wi_MT wco_MT_count (by decide +kernel) (by decide) rfl rfl (Nat.le_of_ble_eq_true rfl) (by show 20 + 3 * t + 3 ≤ 601024; omega) (by show 8000 + 60 * t + 60 ≤ 7293034; omega) d_LA_law_693 (fun E M1 hx => hx.elim) (fun r M6 hp => ?_)
      obtain ⟨-, rfl, A6, hf6⟩ := hp
      have B6 := mo_keep B5 (fun q hq => hf6 q (Or.inl hq))
      have ho6 := (hf6 oo hBo).trans ho5
      obtain ⟨ok6, tf, kf, lf, mf, pf, sf, ⟨S6, -⟩, R6⟩ := B6
      refine j_aload_n F d_LA_law_696 rfl rfl ?_
      refine j_callV F 0 (c_MO_count hl S6) (so_h S6) rfl wl_LA_98 wim_MO_count wse_MO_count wi_MO wco_MO_count (by decide +kernel) (by decide) rfl rfl (Nat.le_of_ble_eq_true rfl) (by show 20 + 3 * t + 3 + 0 ≤ 601024; omega) (by show 8000 + 60 * t + 60 + 0 ≤ 7293034; omega) d_LA_law_697 (fun E M1 hx => hx.elim) (fun r M7 hp => ?_)
      obtain ⟨rfl, W7⟩ := hp
      obtain ⟨hI7, -⟩ := lo_2 (σ1 := σ) (fa1 := 0) hoo5 hzo5 A6 ho6 ⟨ok6, tf, kf, lf, mf, pf, sf, W7, R6⟩
      refine j_icmp_eq F (tgt := 705) d_LA_law_700 (by decide) (fun hq => ?_) (fun hq => absurd rfl hq)
      exact at705 M7 hI7
    refine j_tableOut F (tgt := 705) d_LA_law_40 (Or.inr (by rw [hjt]; omega)) (by decide) ?_
    refine j_widen (k1 := 20 + 3 * t + 3) (n1 := 8000 + 60 * t + 60) (by omega) (by omega) ?_
    exact at705 M5 ⟨hoo5, hzo5, σ, fa, g, A5, B5, ho5⟩
end
section
theorem kc_neg (a b : ke_T) : kc b a = - kc a b := by
  induction a generalizing b with
  | nil =>
    cases b with
    | nil => rfl
    | cons y t => rfl
  | cons x s ih =>
    cases b with
    | nil => rfl
    | cons y t =>
      simp only [kc]
      by_cases h : un x = un y
      · rw [if_pos h.symm, if_pos h]; exact ih t
      · rw [if_neg (Ne.symm h), if_neg h]; omega
/-- an array that holds the key k, or the empty key that is given -/
def ka_R (G : gv_T) (M : mp_T) (a : Nat) (k : ke_T) : Prop := ky G M a k ∨ (a = G.2.2.2 ∧ k = [])
theorem mn_nI {a b : Nat} (ha : a < 2 ^ 31) (hb : b < 2 ^ 31) : (if nI b < nI a then nI b else nI a) = nI (min a b) := by
  by_cases h : b < a
  · rw [if_pos ((nI_ltI hb ha).mpr h), Nat.min_eq_right (Nat.le_of_lt h)]
  · rw [if_neg (fun z => h ((nI_ltI hb ha).mp z)), Nat.min_eq_left (Nat.not_lt.mp h)]
theorem mx_nI {a b : Nat} (ha : a < 2 ^ 31) (hb : b < 2 ^ 31) : (if nI a < nI b then nI b else nI a) = nI (max a b) := by
  by_cases h : a < b
  · rw [if_pos ((nI_ltI ha hb).mpr h), Nat.max_eq_right (Nat.le_of_lt h)]
  · rw [if_neg (fun z => h ((nI_ltI ha hb).mp z)), Nat.max_eq_left (Nat.not_lt.mp h)]
theorem j_klen {p : Program} {l : Launch} {e : Env} {R : Room} {s : State} {m : MethodId} {args : Array Value} {below : List Frame} {meth : Method} {c : Code} {Q : State → Prop} {G : gv_T} {own : String} {cc : ByteArray} {nL : Nat} {tab : List ExceptionTableEntry} {M : mp_T} {k n : Nat} {lv : List (Nat × Value)} {pc : Nat} {st : List Value} (F : jf p l s m args meth c G own cc nL tab) {a : Nat} {ke : ke_T} (h : ka_R G M a ke) (hd : decode cc pc = .ok (.arraylength, 1)) (kk : jj p l e R s m args below meth c G nL Q M k n lv (pc + 1) (.int (nI ke.length) :: st)) : jj p l e R s m args below meth c G nL Q M k n lv pc (.ref a :: st) := by
  rcases h with ⟨kf, h1, h2⟩ | ⟨rfl, rfl⟩
  · exact j_blen F h1 rfl hd kk
  · exact j_tlen F hd kk
theorem j_kald {p : Program} {l : Launch} {e : Env} {R : Room} {s : State} {m : MethodId} {args : Array Value} {below : List Frame} {meth : Method} {c : Code} {Q : State → Prop} {G : gv_T} {own : String} {cc : ByteArray} {nL : Nat} {tab : List ExceptionTableEntry} {M : mp_T} {k n : Nat} {lv : List (Nat × Value)} {pc : Nat} {st : List Value} (F : jf p l s m args meth c G own cc nL tab) {a j : Nat} {ke : ke_T} (h : ka_R G M a ke) (hj : j < ke.length) (hk : ke.length < 2 ^ 31) (hd : decode cc pc = .ok (.baload, 1)) (kk : jj p l e R s m args below meth c G nL Q M k n lv (pc + 1) (.int (ke.getD j 0) :: st)) : jj p l e R s m args below meth c G nL Q M k n lv pc (.int (nI j) :: .ref a :: st) := by
  rcases h with ⟨kf, h1, h2⟩ | ⟨rfl, rfl⟩
  · exact j_baldN F h1 hj hk hd (by rw [h2 j hj]; exact kk)
  · exact absurd hj (Nat.not_lt_zero _)
section VE1
variable {l : Launch} {G : gv_T} {M : mp_T}
set_option maxHeartbeats 4000000 in
set_option maxRecDepth 100000 in
theorem c_JI_compare (hl : l.stackTraces = false) (x y : Int32) : ct_C l G y_JI_compare b_JI_compare 2 (some .int) { frames := 0, cells := 0, slots := 0, locals := 0 } [.int x, .int y] M (fun r M1 => M = M1 ∧ r = some (.int (if x < y then -1 else if y < x then 1 else 0))) (fun _ _ => False) := by
  refine ct_of hl (by decide +kernel) (Nat.le_of_ble_eq_true rfl) ?_
  intro p e s m args below meth c F hr hnm
  refine j_iload_n F d_JI_compare_0 rfl rfl ?_
  refine j_iload_n F d_JI_compare_1 rfl rfl ?_
  refine j_icmp_ge F (tgt := 9) d_JI_compare_2 (by decide) (fun hc => ?_) (fun hc => ?_)
  · skip
    refine j_iload_n F d_JI_compare_9 rfl rfl ?_
    refine j_iload_n F d_JI_compare_10 rfl rfl ?_
    refine j_icmp_ne F (tgt := 18) d_JI_compare_11 (by decide) (fun hc2 => ?_) (fun hc2 => ?_)
    · skip
      refine j_iconst F (v := 1) d_JI_compare_18 (by decide) ?_
      have h1 : ¬ x < y := Int32.not_lt.mpr hc
      have h2 : y < x := Int32.lt_of_le_of_ne hc (Ne.symm hc2)
      exact j_iret F hr (Nat.le_refl _) (Nat.le_refl _) ⟨rfl, by rw [if_neg h1, if_pos h2]⟩ d_JI_compare_19
    · skip
      refine j_iconst F (v := 0) d_JI_compare_14 (by decide) ?_
      refine j_goto F (tgt := 19) d_JI_compare_15 (by decide) ?_
      subst hc2
      exact j_iret F hr (Nat.le_refl _) (Nat.le_refl _) ⟨rfl, by rw [if_neg Int32.lt_irrefl, if_neg Int32.lt_irrefl]⟩ d_JI_compare_19
  · skip
    refine j_iconst F (v := -1) d_JI_compare_5 (by decide) ?_
    refine j_goto F (tgt := 19) d_JI_compare_6 (by decide) ?_
    exact j_iret F hr (Nat.le_refl _) (Nat.le_refl _) ⟨rfl, by rw [if_pos (Int32.not_le.mp hc)]⟩ d_JI_compare_19
set_option maxHeartbeats 4000000 in
set_option maxRecDepth 100000 in
theorem c_VE_okeys (hl : l.stackTraces = false) {a b0 : Nat} {k1 k2 : ke_T} (h1 : ka_R G M a k1) (h2 : ka_R G M b0 k2) (l1 : k1.length ≤ 60) (l2 : k2.length ≤ 60) : ct_C l G y_VE_orderOfKeys b_VE_orderOfKeys 5 (some .int) { frames := 1, cells := 0, slots := 0, locals := 20 } [.ref a, .ref b0] M (fun r M1 => M = M1 ∧ ∃ d : Int32, r = some (.int d) ∧ (d < 0 ↔ kc k1 k2 < 0) ∧ (d = 0 ↔ kc k1 k2 = 0)) (fun _ _ => False) := by
  refine ct_of hl (by decide +kernel) (Nat.le_of_ble_eq_true rfl) ?_
  intro p e s m args below meth c F hr hnm
  refine j_aload_n F d_VE_orderOfKeys_0 rfl rfl ?_
  refine j_klen F h1 d_VE_orderOfKeys_1 ?_
  refine j_aload_n F d_VE_orderOfKeys_2 rfl rfl ?_
  refine j_klen F h2 d_VE_orderOfKeys_3 ?_
  refine j_min F wl_VE_43 wst_JM_min wi_JM wco_JM_min (by decide) (Nat.le_of_ble_eq_true rfl) (by decide) (by decide) d_VE_orderOfKeys_4 ?_
  refine j_val (y := nI (min k1.length k2.length)) (mn_nI (by omega) (by omega)) ?_
  refine j_istore_n F (lv1 := [(2, _), (0, _), (1, _)]) d_VE_orderOfKeys_7 rfl (by decide) rfl ?_
  refine j_iconst F (v := 0) d_VE_orderOfKeys_8 (by decide) ?_
  refine j_istore_n F (lv1 := [(3, _), (2, _), (0, _), (1, _)]) d_VE_orderOfKeys_9 rfl (by decide) rfl ?_
  refine j_lv (lv1 := [(3, .int (nI 0)), (2, .int (nI (min k1.length k2.length))), (0, .ref a), (1, .ref b0)]) rfl ?_
  refine j_ind (α := Nat) (fun j => 60 - j) (fun _ => M) (fun _ => 0) (fun _ => 0) (fun j => [(3, .int (nI j)), (2, .int (nI (min k1.length k2.length))), (0, .ref a), (1, .ref b0)]) (fun _ => []) (fun j => j ≤ k1.length ∧ j ≤ k2.length ∧ ∀ i, i < j → un (k1.getD i 0) = un (k2.getD i 0)) ?_ 0 ⟨Nat.zero_le _, Nat.zero_le _, fun i hi => absurd hi (Nat.not_lt_zero _)⟩
  intro j hj ih
  obtain ⟨hj1, hj2, hj3⟩ := hj
  refine j_iload_n F d_VE_orderOfKeys_10 rfl rfl ?_
  refine j_iload_n F d_VE_orderOfKeys_11 rfl rfl ?_
  refine j_icmp_ge F (tgt := 46) d_VE_orderOfKeys_12 (by decide) (fun hc => ?_) (fun hc => ?_)
  · skip
    have hje : j = k1.length ∨ j = k2.length := by
      have := (nI_leI (a := min k1.length k2.length) (by omega) (by omega)).mp hc
      omega
    obtain ⟨hk1, hk2⟩ := kc_end j hj1 hj2 hj3 hje
    refine j_aload_n F d_VE_orderOfKeys_46 rfl rfl ?_
    refine j_klen F h1 d_VE_orderOfKeys_47 ?_
    refine j_aload_n F d_VE_orderOfKeys_48 rfl rfl ?_
    refine j_klen F h2 d_VE_orderOfKeys_49 ?_
    refine j_isub F d_VE_orderOfKeys_50 ?_
    exact j_iret F hr (Nat.le_refl _) (Nat.le_refl _) ⟨rfl, _, rfl, by rw [sg_lt (by omega) (by omega), sg_eq (by omega) (by omega)]; exact ⟨hk1.symm, hk2.symm⟩⟩ d_VE_orderOfKeys_51
  · skip
    have hjm : j < min k1.length k2.length := Nat.not_le.mp (fun z => hc ((nI_leI (by omega) (by omega)).mpr z))
    have hj4 : j < k1.length := by omega
    have hj5 : j < k2.length := by omega
    refine j_aload_n F d_VE_orderOfKeys_15 rfl rfl ?_
    refine j_iload_n F d_VE_orderOfKeys_16 rfl rfl ?_
    refine j_kald F h1 hj4 (by omega) d_VE_orderOfKeys_17 ?_
    refine j_sipush F (v := 255) d_VE_orderOfKeys_18 (by decide) ?_
    refine j_iand F d_VE_orderOfKeys_21 ?_
    refine j_val (y := nI (un (k1.getD j 0))) (un_and _) ?_
    refine j_aload_n F d_VE_orderOfKeys_22 rfl rfl ?_
    refine j_iload_n F d_VE_orderOfKeys_23 rfl rfl ?_
    refine j_kald F h2 hj5 (by omega) d_VE_orderOfKeys_24 ?_
    refine j_sipush F (v := 255) d_VE_orderOfKeys_25 (by decide) ?_
    refine j_iand F d_VE_orderOfKeys_28 ?_
    refine j_val (y := nI (un (k2.getD j 0))) (un_and _) ?_
    refine j_isub F d_VE_orderOfKeys_29 ?_
    have u1 := un_lt (k1.getD j 0)
    have u2 := un_lt (k2.getD j 0)
    refine j_istore F (lv1 := [(4, _), (3, _), (2, _), (0, _), (1, _)]) d_VE_orderOfKeys_30 (by decide) rfl ?_
    refine j_iload F d_VE_orderOfKeys_32 rfl ?_
    refine j_if_eq F (tgt := 40) d_VE_orderOfKeys_34 (by decide) (fun hc3 => ?_) (fun hc3 => ?_)
    · skip
      have hu : un (k1.getD j 0) = un (k2.getD j 0) := (sg_eq (by omega) (by omega)).mp hc3
      refine j_iinc F (lv1 := [(3, _), (4, _), (2, _), (0, _), (1, _)]) d_VE_orderOfKeys_40 rfl (nI_1 j) (by decide) rfl ?_
      refine j_sub [0, 2, 3, 4] rfl ?_
      refine j_goto F (tgt := 10) d_VE_orderOfKeys_43 (by decide) ?_
      exact ih (j + 1) ⟨hj4, hj5, fun i hi => by
        rcases Nat.lt_succ_iff_lt_or_eq.mp hi with z | z
        · exact hj3 i z
        · rw [z]; exact hu⟩ (by omega)
    · skip
      have hu : un (k1.getD j 0) ≠ un (k2.getD j 0) := fun z => hc3 ((sg_eq (by omega) (by omega)).mpr z)
      have hkd := kc_diff j hj4 hj5 hj3 hu
      refine j_iload F d_VE_orderOfKeys_37 rfl ?_
      exact j_iret F hr (Nat.le_refl _) (Nat.le_refl _) ⟨rfl, _, rfl, by rw [sg_lt (by omega) (by omega), sg_eq (by omega) (by omega)]; omega⟩ d_VE_orderOfKeys_39
set_option maxHeartbeats 4000000 in
set_option maxRecDepth 100000 in
theorem c_VE_orderOf (hl : l.stackTraces = false) {a ok ka : Nat} {e0 : en_T} {ht : Int32} {lc rc : Option Nat} {k : ke_T} {mm : Int32} (hv : M a = some (vE ka e0 ht lc rc)) (hk : ky G M ka e0.1) (h2 : ka_R G M ok k) (l1 : e0.1.length ≤ 60) (l2 : k.length ≤ 60) : ct_C l G y_VE_orderOf b_VE_orderOf 4 (some .int) { frames := 2, cells := 0, slots := 0, locals := 44 } [.ref a, .ref ok, .int mm] M (fun r M1 => M = M1 ∧ ∃ d : Int32, r = some (.int d) ∧ (d < 0 ↔ 0 < oc e0 k mm) ∧ (d = 0 ↔ oc e0 k mm = 0)) (fun _ _ => False) := by
  refine ct_of hl (by decide +kernel) (Nat.le_of_ble_eq_true rfl) ?_
  intro p e s m args below meth c F hr hnm
  refine j_aload_n F d_VE_orderOf_0 rfl rfl ?_
  refine j_aload_n F d_VE_orderOf_1 rfl rfl ?_
  refine j_get F hv rfl in_VE 0 (by decide) wf_VE_7 rfl d_VE_orderOf_2 ?_
  refine j_callS F 2 (c_VE_okeys hl h2 (Or.inl hk) l2 l1) wl_VE_33 wst_VE_orderOfKeys wi_VE wco_VE_orderOfKeys (by decide +kernel) (by decide) rfl rfl (Nat.le_of_ble_eq_true rfl) (by decide) (by decide) d_VE_orderOf_5 (fun E M1 hx => hx.elim) (fun r M1 hp => ?_)
  obtain ⟨rfl, d, rfl, hd1, hd2⟩ := hp
  have hn := kc_neg k e0.1
  refine j_istore_n F (lv1 := [(3, _), (0, _), (1, _), (2, _)]) d_VE_orderOf_8 rfl (by decide) rfl ?_
  refine j_iload_n F d_VE_orderOf_9 rfl rfl ?_
  refine j_if_eq F (tgt := 17) d_VE_orderOf_10 (by decide) (fun hc => ?_) (fun hc => ?_)
  · skip
    have h0 : kc k e0.1 = 0 := hd2.mp hc
    have hk0 : kc e0.1 k = 0 := by omega
    refine j_aload_n F d_VE_orderOf_17 rfl rfl ?_
    refine j_get F hv rfl in_VE 1 (by decide) wf_VE_13 rfl d_VE_orderOf_18 ?_
    refine j_iload_n F d_VE_orderOf_21 rfl rfl ?_
    refine j_callS F 2 (c_JI_compare hl e0.2.1 mm) wl_VE_37 wst_JI_compare wi_JI wco_JI_compare (by decide +kernel) (by decide) rfl rfl (Nat.le_of_ble_eq_true rfl) (by decide) (by decide) d_VE_orderOf_22 (fun E M1 hx => hx.elim) (fun r M1 hp => ?_)
    obtain ⟨rfl, rfl⟩ := hp
    refine j_iret F hr (Nat.le_refl _) (Nat.le_refl _) ⟨rfl, _, rfl, ?_⟩ d_VE_orderOf_25
    rw [oc_m hk0]
    by_cases z1 : e0.2.1 < mm
    · have z2 : ¬ mm < e0.2.1 := fun z => Int32.lt_irrefl (Int32.lt_trans z z1)
      rw [if_pos z1, if_neg z2, if_pos z1]; decide
    · by_cases z2 : mm < e0.2.1
      · rw [if_neg z1, if_pos z2, if_pos z2]; decide
      · rw [if_neg z1, if_neg z2, if_neg z2, if_neg z1]; decide
  · skip
    have h0 : kc k e0.1 ≠ 0 := fun z => hc (hd2.mpr z)
    have hk0 : kc e0.1 k ≠ 0 := by omega
    refine j_iload_n F d_VE_orderOf_13 rfl rfl ?_
    refine j_goto F (tgt := 25) d_VE_orderOf_14 (by decide) ?_
    exact j_iret F hr (Nat.le_refl _) (Nat.le_refl _) ⟨rfl, _, rfl, by rw [oc_k hk0, hd1, hd2]; omega⟩ d_VE_orderOf_25
end VE1
end
section
theorem kc_tr (a b c : ke_T) (h1 : kc a b ≤ 0) (h2 : kc b c ≤ 0) : kc a c ≤ 0 ∧ (kc a c = 0 → kc a b = 0 ∧ kc b c = 0) := by
  induction a generalizing b c with
  | nil =>
    cases b with
    | nil => exact ⟨h2, fun h => ⟨rfl, h⟩⟩
    | cons y t =>
      cases c with
      | nil => exact absurd h2 (by simp [kc])
      | cons z u => exact ⟨by simp [kc], fun h => absurd h (by simp [kc])⟩
  | cons x s ih =>
    cases b with
    | nil => exact absurd h1 (by simp [kc])
    | cons y t =>
      cases c with
      | nil => exact absurd h2 (by simp [kc])
      | cons z u =>
        simp only [kc] at h1 h2 ⊢
        by_cases e1 : un x = un y
        · by_cases e2 : un y = un z
          · rw [if_pos e1] at h1 ⊢
            rw [if_pos e2] at h2 ⊢
            rw [if_pos (e1.trans e2)]
            exact ih t u h1 h2
          · rw [if_neg e2] at h2 ⊢
            rw [if_pos e1] at h1 ⊢
            rw [if_neg (by omega)]
            omega
        · rw [if_neg e1] at h1 ⊢
          by_cases e2 : un y = un z
          · rw [if_pos e2] at h2 ⊢
            rw [if_neg (by omega)]
            omega
          · rw [if_neg e2] at h2 ⊢
            rw [if_neg (by omega)]
            omega
theorem oc_lt {x y : en_T} {k : ke_T} {m : Int32} (h1 : oc x y.1 y.2.1 < 0) (h2 : oc y k m ≤ 0) : oc x k m < 0 := by
  have hy : kc y.1 k ≤ 0 ∧ (kc y.1 k = 0 → ¬ y.2.1 < m) := by
    by_cases z : kc y.1 k = 0
    · rw [oc_m z] at h2
      refine ⟨by omega, fun _ w => ?_⟩
      rw [if_neg (fun q => Int32.lt_irrefl (Int32.lt_trans q w)), if_pos w] at h2
      omega
    · rw [oc_k z] at h2
      exact ⟨h2, fun w => absurd w z⟩
  by_cases z : kc x.1 y.1 = 0
  · rw [oc_m z] at h1
    have hm : y.2.1 < x.2.1 := by
      by_cases w : y.2.1 < x.2.1
      · exact w
      · rw [if_neg w] at h1
        split at h1 <;> omega
    obtain ⟨t1, t2⟩ := kc_tr x.1 y.1 k (by omega) hy.1
    by_cases z2 : kc x.1 k = 0
    · rw [oc_m z2]
      have hy0 := (t2 z2).2
      have : m < x.2.1 := Int32.lt_of_le_of_lt (Int32.not_lt.mp (hy.2 hy0)) hm
      rw [if_pos this]
      omega
    · rw [oc_k z2]; omega
  · rw [oc_k z] at h1
    obtain ⟨t1, t2⟩ := kc_tr x.1 y.1 k (by omega) hy.1
    have z2 : kc x.1 k ≠ 0 := fun w => z (t2 w).1
    rw [oc_k z2]; omega
theorem oc_anti (x y : en_T) : (oc x y.1 y.2.1 < 0 ↔ 0 < oc y x.1 x.2.1) ∧ (oc x y.1 y.2.1 = 0 ↔ oc y x.1 x.2.1 = 0) := by
  have hn := kc_neg x.1 y.1
  by_cases z : kc x.1 y.1 = 0
  · have z2 : kc y.1 x.1 = 0 := by omega
    rw [oc_m z, oc_m z2]
    by_cases w1 : y.2.1 < x.2.1
    · have w2 : ¬ x.2.1 < y.2.1 := fun q => Int32.lt_irrefl (Int32.lt_trans q w1)
      rw [if_pos w1, if_neg w2, if_pos w1]; decide
    · by_cases w2 : x.2.1 < y.2.1
      · rw [if_neg w1, if_pos w2, if_pos w2]; decide
      · rw [if_neg w1, if_neg w2, if_neg w2, if_neg w1]; decide
  · have z2 : kc y.1 x.1 ≠ 0 := by omega
    rw [oc_k z, oc_k z2]; omega
/-- the height that a side tells -/
def hv_R (M : mp_T) (r : Option Nat) (h : Nat) : Prop := (r = none ∧ h = 0) ∨ ∃ (a ka : Nat) (e : en_T) (l r1 : Option Nat), r = some a ∧ M a = some (vE ka e (nI h) l r1)
theorem tr_hv {G : gv_T} {M : mp_T} {d : Nat} {r : Option Nat} {L : List no_T} {h : Nat} (ht : tr G M d r L h) : hv_R M r h := by
  cases r with
  | none => cases d <;> exact Or.inl ⟨rfl, ht.2⟩
  | some a =>
    cases d with
    | zero => exact ht.elim
    | succ d =>
      obtain ⟨ka, e, l, r1, -, -, -, -, h1, -⟩ := ht
      exact Or.inr ⟨a, ka, e, l, r1, rfl, h1⟩
theorem tr_le {G : gv_T} {M : mp_T} (d : Nat) : ∀ {r : Option Nat} {L : List no_T} {h : Nat}, tr G M d r L h → h ≤ d := by
  induction d with
  | zero =>
    intro r L h ht
    cases r with
    | none => rw [ht.2]; exact Nat.le_refl _
    | some a => exact ht.elim
  | succ d ih =>
    intro r L h ht
    cases r with
    | none => rw [ht.2]; exact Nat.zero_le _
    | some a =>
      obtain ⟨ka, e, l, r1, Ll, Lr, hl, hr, -, -, h3, h4, -, h6, -⟩ := ht
      have := ih h3
      have := ih h4
      omega
/-- as deep as it is high -/
theorem tr_fuel {G : gv_T} {M : mp_T} (d : Nat) : ∀ {d1 : Nat} {r : Option Nat} {L : List no_T} {h : Nat}, tr G M d r L h → h ≤ d1 → tr G M d1 r L h := by
  induction d with
  | zero =>
    intro d1 r L h ht _
    cases r with
    | none => cases d1 <;> exact ht
    | some a => exact ht.elim
  | succ d ih =>
    intro d1 r L h ht hd
    cases r with
    | none => cases d1 <;> exact ht
    | some a =>
      obtain ⟨ka, e, l, r1, Ll, Lr, hl, hr, h1, h2, h3, h4, h5, h6, h7⟩ := ht
      cases d1 with
      | zero => omega
      | succ d1 => exact ⟨ka, e, l, r1, Ll, Lr, hl, hr, h1, h2, ih h3 (by omega), ih h4 (by omega), h5, h6, h7⟩
/-- a version by its address, its key's address, what it is -/
def no_R (G : gv_T) (M : mp_T) (y : no_T) : Prop := (∃ (ht : Int32) (l r : Option Nat), M y.1 = some (vE y.2.1 y.2.2 ht l r)) ∧ ky G M y.2.1 y.2.2.1
theorem tr_no {G : gv_T} {M : mp_T} (d : Nat) : ∀ {r : Option Nat} {L : List no_T} {h : Nat}, tr G M d r L h → ∀ y ∈ L, no_R G M y := by
  induction d with
  | zero =>
    intro r L h ht y hy
    cases r with
    | none => rw [ht.1] at hy; cases hy
    | some a => exact ht.elim
  | succ d ih =>
    intro r L h ht y hy
    cases r with
    | none => rw [ht.1] at hy; cases hy
    | some a =>
      obtain ⟨ka, e, l, r1, Ll, Lr, hl, hr, h1, h2, h3, h4, rfl, -⟩ := ht
      rcases List.mem_append.mp hy with z | z
      · exact ih h3 y z
      · rcases List.mem_cons.mp z with z | z
        · subst z; exact ⟨⟨_, _, _, h1⟩, h2⟩
        · exact ih h4 y z
section HT1
variable {l : Launch} {G : gv_T} {M : mp_T}
set_option maxHeartbeats 4000000 in
set_option maxRecDepth 100000 in
theorem c_TR_heightOf (hl : l.stackTraces = false) {r : Option Nat} {h : Nat} (H : hv_R M r h) : ct_C l G y_TR_heightOf b_TR_heightOf 1 (some .int) { frames := 0, cells := 0, slots := 0, locals := 0 } [va_rf r] M (fun v M1 => M = M1 ∧ v = some (.int (nI h))) (fun _ _ => False) := by
  refine ct_of hl (by decide +kernel) (by simp [lg_sl, rf_cat, ca_r, ca_i, ca_n]) ?_
  intro p e s m args below meth c F hr hnm
  refine j_lv (lv1 := [(0, va_rf r)]) (by simp [lv_args, rf_cat, ca_r, ca_i, ca_n]) ?_
  refine j_aload_nq F d_TR_heightOf_0 rfl rfl ?_
  rcases H with ⟨rfl, rfl⟩ | ⟨a, ka, e0, lc, rc, rfl, hv⟩
  · skip
    refine j_ifnonnull F (tgt := 8) d_TR_heightOf_1 (by decide) (fun x hx => by cases hx) (fun _ => ?_)
    refine j_iconst F (v := 0) d_TR_heightOf_4 (by decide) ?_
    refine j_goto F (tgt := 12) d_TR_heightOf_5 (by decide) ?_
    exact j_iret F hr (Nat.le_refl _) (Nat.le_refl _) ⟨rfl, rfl⟩ d_TR_heightOf_12
  · skip
    refine j_ifnonnull F (tgt := 8) d_TR_heightOf_1 (by decide) (fun x hx => ?_) (fun hx => by cases hx)
    refine j_aload_n F d_TR_heightOf_8 rfl rfl ?_
    refine j_get F hv rfl in_VE 4 (by decide) wf_TR_52 rfl d_TR_heightOf_9 ?_
    exact j_iret F hr (Nat.le_refl _) (Nat.le_refl _) ⟨rfl, rfl⟩ d_TR_heightOf_12
set_option maxHeartbeats 4000000 in
set_option maxRecDepth 100000 in
theorem c_TR_hfs (hl : l.stackTraces = false) {a ka : Nat} {e0 : en_T} {ht : Int32} {lc rc : Option Nat} {h1 h2 : Nat} (hv : M a = some (vE ka e0 ht lc rc)) (H1 : hv_R M lc h1) (H2 : hv_R M rc h2) (b1 : h1 ≤ 1000) (b2 : h2 ≤ 1000) : ct_C l G y_TR_heightFromSides b_TR_heightFromSides 1 (some .int) { frames := 1, cells := 0, slots := 0, locals := 20 } [.ref a] M (fun v M1 => M = M1 ∧ v = some (.int (nI (max h1 h2 + 1)))) (fun _ _ => False) := by
  refine ct_of hl (by decide +kernel) (Nat.le_of_ble_eq_true rfl) ?_
  intro p e s m args below meth c F hr hnm
  refine j_iconst F (v := 1) d_TR_heightFromSides_0 (by decide) ?_
  refine j_aload_n F d_TR_heightFromSides_1 rfl rfl ?_
  refine j_get F hv rfl in_VE 5 (by decide) wf_TR_23 rfl d_TR_heightFromSides_2 ?_
  refine j_callS F 1 (c_TR_heightOf hl H1) wl_TR_64 wst_TR_heightOf wi_TR wco_TR_heightOf (by decide +kernel) (by decide) rfl rfl (Nat.le_of_ble_eq_true rfl) (by decide) (by decide) d_TR_heightFromSides_5 (fun E M1 hx => hx.elim) (fun r M1 hp => ?_)
  obtain ⟨rfl, rfl⟩ := hp
  refine j_aload_n F d_TR_heightFromSides_8 rfl rfl ?_
  refine j_get F hv rfl in_VE 6 (by decide) wf_TR_26 rfl d_TR_heightFromSides_9 ?_
  refine j_callS F 1 (c_TR_heightOf hl H2) wl_TR_64 wst_TR_heightOf wi_TR wco_TR_heightOf (by decide +kernel) (by decide) rfl rfl (Nat.le_of_ble_eq_true rfl) (by decide) (by decide) d_TR_heightFromSides_12 (fun E M1 hx => hx.elim) (fun r M1 hp => ?_)
  obtain ⟨rfl, rfl⟩ := hp
  refine j_max F wl_TR_67 wst_JM_max wi_JM wco_JM_max (by decide) (Nat.le_of_ble_eq_true rfl) (by decide) (by decide) d_TR_heightFromSides_15 ?_
  refine j_val (y := nI (max h1 h2)) (mx_nI (by omega) (by omega)) ?_
  refine j_iadd F d_TR_heightFromSides_18 ?_
  refine j_val (y := nI (max h1 h2 + 1)) (by rw [show (1 : Int32) = nI 1 from rfl, nI_add, Nat.add_comm]) ?_
  exact j_iret F hr (Nat.le_refl _) (Nat.le_refl _) ⟨rfl, rfl⟩ d_TR_heightFromSides_19
set_option maxHeartbeats 4000000 in
set_option maxRecDepth 100000 in
theorem c_TR_leaning (hl : l.stackTraces = false) {a ka : Nat} {e0 : en_T} {ht : Int32} {lc rc : Option Nat} {h1 h2 : Nat} (hv : M a = some (vE ka e0 ht lc rc)) (H1 : hv_R M lc h1) (H2 : hv_R M rc h2) (b1 : h1 ≤ 1000) (b2 : h2 ≤ 1000) : ct_C l G y_TR_leaning b_TR_leaning 1 (some .int) { frames := 1, cells := 0, slots := 0, locals := 20 } [.ref a] M (fun v M1 => M = M1 ∧ v = some (.int (nI h1 - nI h2))) (fun _ _ => False) := by
  refine ct_of hl (by decide +kernel) (Nat.le_of_ble_eq_true rfl) ?_
  intro p e s m args below meth c F hr hnm
  refine j_aload_n F d_TR_leaning_0 rfl rfl ?_
  refine j_ifnonnull F (r := some a) (tgt := 8) d_TR_leaning_1 (by decide) (fun x hx => ?_) (fun hx => by cases hx)
  refine j_aload_n F d_TR_leaning_8 rfl rfl ?_
  refine j_get F hv rfl in_VE 5 (by decide) wf_TR_23 rfl d_TR_leaning_9 ?_
  refine j_callS F 1 (c_TR_heightOf hl H1) wl_TR_64 wst_TR_heightOf wi_TR wco_TR_heightOf (by decide +kernel) (by decide) rfl rfl (Nat.le_of_ble_eq_true rfl) (by decide) (by decide) d_TR_leaning_12 (fun E M1 hx => hx.elim) (fun r M1 hp => ?_)
  obtain ⟨rfl, rfl⟩ := hp
  refine j_aload_n F d_TR_leaning_15 rfl rfl ?_
  refine j_get F hv rfl in_VE 6 (by decide) wf_TR_26 rfl d_TR_leaning_16 ?_
  refine j_callS F 1 (c_TR_heightOf hl H2) wl_TR_64 wst_TR_heightOf wi_TR wco_TR_heightOf (by decide +kernel) (by decide) rfl rfl (Nat.le_of_ble_eq_true rfl) (by decide) (by decide) d_TR_leaning_19 (fun E M1 hx => hx.elim) (fun r M1 hp => ?_)
  obtain ⟨rfl, rfl⟩ := hp
  refine j_isub F d_TR_leaning_22 ?_
  exact j_iret F hr (Nat.le_refl _) (Nat.le_refl _) ⟨rfl, rfl⟩ d_TR_leaning_23
set_option maxHeartbeats 4000000 in
set_option maxRecDepth 100000 in
theorem c_TR_isBalanced (hl : l.stackTraces = false) {a ka : Nat} {e0 : en_T} {lc rc : Option Nat} {h1 h2 : Nat} (hv : M a = some (vE ka e0 (nI (max h1 h2 + 1)) lc rc)) (H1 : hv_R M lc h1) (H2 : hv_R M rc h2) (b1 : h1 ≤ 1000) (b2 : h2 ≤ 1000) (g1 : h1 ≤ h2 + 1) (g2 : h2 ≤ h1 + 1) : ct_C l G y_TR_isBalanced b_TR_isBalanced 2 (some .boolean) { frames := 2, cells := 0, slots := 0, locals := 40 } [.ref a] M (fun v M1 => M = M1 ∧ v = some (.int 1)) (fun _ _ => False) := by
  refine ct_of hl (by decide +kernel) (Nat.le_of_ble_eq_true rfl) ?_
  intro p e s m args below meth c F hr hnm
  refine j_aload_n F d_TR_isBalanced_0 rfl rfl ?_
  refine j_callS F 1 (c_TR_leaning hl hv H1 H2 b1 b2) wl_TR_55 wst_TR_leaning wi_TR wco_TR_leaning (by decide +kernel) (by decide) rfl rfl (Nat.le_of_ble_eq_true rfl) (by decide) (by decide) d_TR_isBalanced_1 (fun E M1 hx => hx.elim) (fun r M1 hp => ?_)
  obtain ⟨rfl, rfl⟩ := hp
  refine j_istore_n F (lv1 := [(1, _), (0, _)]) d_TR_isBalanced_4 rfl (by decide) rfl ?_
  refine j_aload_n F d_TR_isBalanced_5 rfl rfl ?_
  refine j_get F hv rfl in_VE 4 (by decide) wf_TR_52 rfl d_TR_isBalanced_6 ?_
  refine j_aload_n F d_TR_isBalanced_9 rfl rfl ?_
  refine j_callS F 1 (c_TR_hfs hl hv H1 H2 b1 b2) wl_TR_48 wst_TR_heightFromSides wi_TR wco_TR_heightFromSides (by decide +kernel) (by decide) rfl rfl (Nat.le_of_ble_eq_true rfl) (by decide) (by decide) d_TR_isBalanced_10 (fun E M1 hx => hx.elim) (fun r M1 hp => ?_)
  obtain ⟨rfl, rfl⟩ := hp
  have hti : (nI h1 - nI h2).toInt = (h1 : Int) - h2 := pk_sub_toInt (by omega) (by omega)
  refine j_icmp_ne F (tgt := 30) d_TR_isBalanced_13 (by decide) (fun hc => absurd rfl hc) (fun hc => ?_)
  refine j_iload_n F d_TR_isBalanced_16 rfl rfl ?_
  refine j_iconst F (v := -1) d_TR_isBalanced_17 (by decide) ?_
  refine j_icmp_lt F (tgt := 30) d_TR_isBalanced_18 (by decide) (fun hc => ?_) (fun hc => ?_)
  · rw [Int32.lt_iff_toInt_lt, hti] at hc
    have : (-1 : Int32).toInt = -1 := by decide
    omega
  refine j_iload_n F d_TR_isBalanced_21 rfl rfl ?_
  refine j_iconst F (v := 1) d_TR_isBalanced_22 (by decide) ?_
  refine j_icmp_gt F (tgt := 30) d_TR_isBalanced_23 (by decide) (fun hc => ?_) (fun hc => ?_)
  · rw [Int32.lt_iff_toInt_lt, hti] at hc
    have : (1 : Int32).toInt = 1 := by decide
    omega
  refine j_iconst F (v := 1) d_TR_isBalanced_26 (by decide) ?_
  refine j_goto F (tgt := 31) d_TR_isBalanced_27 (by decide) ?_
  exact j_zret F hr rfl (Nat.le_refl _) (Nat.le_refl _) ⟨rfl, rfl⟩ d_TR_isBalanced_31
set_option maxHeartbeats 4000000 in
set_option maxRecDepth 100000 in
theorem c_TR_isBetween (hl : l.stackTraces = false) {y : no_T} {lo hi : Option no_T} (hy : no_R G M y) (hy6 : y.2.2.1.length ≤ 60) (hlo : ∀ z, lo = some z → no_R G M z ∧ z.2.2.1.length ≤ 60 ∧ oc z.2.2 y.2.2.1 y.2.2.2.1 < 0) (hhi : ∀ z, hi = some z → no_R G M z ∧ z.2.2.1.length ≤ 60 ∧ 0 < oc z.2.2 y.2.2.1 y.2.2.2.1) : ct_C l G y_TR_isBetween b_TR_isBetween 3 (some .boolean) { frames := 3, cells := 0, slots := 0, locals := 67 } [.ref y.1, va_rf (lo.map (fun z => z.1)), va_rf (hi.map (fun z => z.1))] M (fun v M1 => M = M1 ∧ v = some (.int 1)) (fun _ _ => False) := by
  refine ct_of hl (by decide +kernel) (by simp [lg_sl, rf_cat, ca_r, ca_i, ca_n]) ?_
  intro p e s m args below meth c F hr hnm
  refine j_lv (lv1 := [(0, .ref y.1), (1, va_rf (lo.map (fun z => z.1))), (2, va_rf (hi.map (fun z => z.1)))]) (by simp [lv_args, rf_cat, ca_r, ca_i, ca_n]) ?_
  obtain ⟨⟨hty, ly, ry, hv⟩, hky⟩ := hy
  refine j_cut (α := Unit) (fun _ => True) (fun _ => M) (fun _ => 0) (fun _ => 0) (fun _ => [(0, .ref y.1), (1, va_rf (lo.map (fun z => z.1))), (2, va_rf (hi.map (fun z => z.1)))]) 19 (fun _ => []) ?_ (fun at19 => ?_)
  · skip
    intro _ _
    refine j_aload_nq F d_TR_isBetween_19 rfl rfl ?_
    cases hi with
    | none =>
      refine j_ifnull F (tgt := 38) d_TR_isBetween_20 (by decide) (fun _ => ?_) (fun x hx => by cases hx)
      refine j_iconst F (v := 1) d_TR_isBetween_38 (by decide) ?_
      refine j_goto F (tgt := 43) d_TR_isBetween_39 (by decide) ?_
      exact j_zret F hr rfl (Nat.le_refl _) (Nat.le_refl _) ⟨rfl, rfl⟩ d_TR_isBetween_43
    | some q =>
      obtain ⟨⟨⟨htq, lq, rq, hvq⟩, hkq⟩, hq6, hqo⟩ := hhi q rfl
      refine j_ifnull F (tgt := 38) d_TR_isBetween_20 (by decide) (fun hx => by cases hx) (fun x hx => ?_)
      refine j_aload_n F d_TR_isBetween_23 rfl rfl ?_
      refine j_aload_n F d_TR_isBetween_24 rfl rfl ?_
      refine j_get F hv rfl in_VE 0 (by decide) wf_TR_37 rfl d_TR_isBetween_25 ?_
      refine j_aload_n F d_TR_isBetween_28 rfl rfl ?_
      refine j_get F hv rfl in_VE 1 (by decide) wf_TR_41 rfl d_TR_isBetween_29 ?_
      refine j_callV F 2 (c_VE_orderOf hl hvq hkq (Or.inl hky) hq6 hy6 (mm := y.2.2.2.1)) hvq rfl wl_TR_17 wim_VE_orderOf wse_VE_orderOf wi_VE wco_VE_orderOf (by decide +kernel) (by decide) rfl rfl (Nat.le_of_ble_eq_true rfl) (by decide) (by decide) d_TR_isBetween_32 (fun E M1 hx => hx.elim) (fun r M1 hp => ?_)
      obtain ⟨rfl, d, rfl, hd1, hd2⟩ := hp
      refine j_if_ge F (tgt := 42) d_TR_isBetween_35 (by decide) (fun hc => absurd (hd1.mpr hqo) (Int32.not_lt.mpr hc)) (fun hc => ?_)
      refine j_iconst F (v := 1) d_TR_isBetween_38 (by decide) ?_
      refine j_goto F (tgt := 43) d_TR_isBetween_39 (by decide) ?_
      exact j_zret F hr rfl (Nat.le_refl _) (Nat.le_refl _) ⟨rfl, rfl⟩ d_TR_isBetween_43
  refine j_aload_nq F d_TR_isBetween_0 rfl rfl ?_
  cases lo with
  | none =>
    exact j_ifnull F (tgt := 19) d_TR_isBetween_1 (by decide) (fun _ => at19 () trivial) (fun x hx => by cases hx)
  | some q =>
    obtain ⟨⟨⟨htq, lq, rq, hvq⟩, hkq⟩, hq6, hqo⟩ := hlo q rfl
    refine j_ifnull F (tgt := 19) d_TR_isBetween_1 (by decide) (fun hx => by cases hx) (fun x hx => ?_)
    refine j_aload_n F d_TR_isBetween_4 rfl rfl ?_
    refine j_aload_n F d_TR_isBetween_5 rfl rfl ?_
    refine j_get F hv rfl in_VE 0 (by decide) wf_TR_37 rfl d_TR_isBetween_6 ?_
    refine j_aload_n F d_TR_isBetween_9 rfl rfl ?_
    refine j_get F hv rfl in_VE 1 (by decide) wf_TR_41 rfl d_TR_isBetween_10 ?_
    refine j_callV F 2 (c_VE_orderOf hl hvq hkq (Or.inl hky) hq6 hy6 (mm := y.2.2.2.1)) hvq rfl wl_TR_17 wim_VE_orderOf wse_VE_orderOf wi_VE wco_VE_orderOf (by decide +kernel) (by decide) rfl rfl (Nat.le_of_ble_eq_true rfl) (by decide) (by decide) d_TR_isBetween_13 (fun E M1 hx => hx.elim) (fun r M1 hp => ?_)
    obtain ⟨rfl, d, rfl, hd1, hd2⟩ := hp
    refine j_if_le F (tgt := 42) d_TR_isBetween_16 (by decide) (fun hc => ?_) (fun hc => at19 () trivial)
    exfalso
    by_cases z : d = 0
    · have := hd2.mp z; omega
    · have := hd1.mp (Int32.lt_of_le_of_ne hc z); omega
end HT1
end
section
section CN1
variable {l : Launch} {G : gv_T} {M : mp_T}
set_option maxHeartbeats 8000000 in
set_option maxRecDepth 100000 in
theorem c_TR_countSound (hl : l.stackTraces = false) (d : Nat) : ∀ (r : Option Nat) (L : List no_T) (h dep : Nat) (lo hi : Option no_T), tr G M d r L h → dep + d ≤ 40 → L.length ≤ 1000 → (∀ y ∈ L, y.2.2.1.length ≤ 60) → srt (L.map (fun y => y.2.2)) → (∀ z, lo = some z → no_R G M z ∧ z.2.2.1.length ≤ 60 ∧ ∀ y ∈ L, oc z.2.2 y.2.2.1 y.2.2.2.1 < 0) → (∀ z, hi = some z → no_R G M z ∧ z.2.2.1.length ≤ 60 ∧ ∀ y ∈ L, 0 < oc z.2.2 y.2.2.1 y.2.2.2.1) → ct_C l G y_TR_countSound b_TR_countSound 6 (some .int) { frames := 4 + d, cells := 0, slots := 0, locals := 89 + 25 * d } [va_rf r, va_rf (lo.map (fun z => z.1)), va_rf (hi.map (fun z => z.1)), .int (nI dep)] M (fun v M1 => M = M1 ∧ v = some (.int (nI L.length))) (fun _ _ => False) := by
  induction d with
  | zero =>
    intro r L h dep lo hi ht hd hL h60 hs hlo hhi
    refine ct_of hl (by decide +kernel) (by simp [lg_sl, rf_cat, ca_i]) ?_
    intro p e s m args below meth c F hr hnm
    refine j_lv (lv1 := [(0, va_rf r), (1, va_rf (lo.map (fun z => z.1))), (2, va_rf (hi.map (fun z => z.1))), (3, .int (nI dep))]) (by simp [lv_args, rf_cat]) ?_
    cases r with
    | none =>
      rw [ht.1]
      refine j_aload_nq F d_TR_countSound_0 rfl rfl ?_
      refine j_ifnonnull F (tgt := 6) d_TR_countSound_1 (by decide) (fun x hx => by cases hx) (fun _ => ?_)
      refine j_iconst F (v := 0) d_TR_countSound_4 (by decide) ?_
      exact j_iret F hr (Nat.le_refl _) (Nat.le_refl _) ⟨rfl, rfl⟩ d_TR_countSound_5
    | some a => exact ht.elim
  | succ d ih =>
    intro r L h dep lo hi ht hd hL h60 hs hlo hhi
    refine ct_of hl (by decide +kernel) (by simp [lg_sl, rf_cat, ca_i]) ?_
    intro p e s m args below meth c F hr hnm
    refine j_lv (lv1 := [(0, va_rf r), (1, va_rf (lo.map (fun z => z.1))), (2, va_rf (hi.map (fun z => z.1))), (3, .int (nI dep))]) (by simp [lv_args, rf_cat]) ?_
    cases r with
    | none =>
      rw [ht.1]
      refine j_aload_nq F d_TR_countSound_0 rfl rfl ?_
      refine j_ifnonnull F (tgt := 6) d_TR_countSound_1 (by decide) (fun x hx => by cases hx) (fun _ => ?_)
      refine j_iconst F (v := 0) d_TR_countSound_4 (by decide) ?_
      exact j_iret F hr (Nat.le_refl _) (Nat.le_refl _) ⟨rfl, rfl⟩ d_TR_countSound_5
    | some a =>
      obtain ⟨ka, e0, lc, rc, Ll, Lr, h1, h2, hv, hk, htl, htr, rfl, rfl, g1, g2⟩ := ht
      have hmx : (a, ka, e0) ∈ Ll ++ (a, ka, e0) :: Lr := List.mem_append_right _ List.mem_cons_self
      have hml : ∀ y ∈ Ll, y ∈ Ll ++ (a, ka, e0) :: Lr := fun y hy => List.mem_append_left _ hy
      have hmr : ∀ y ∈ Lr, y ∈ Ll ++ (a, ka, e0) :: Lr := fun y hy => List.mem_append_right _ (List.mem_cons_of_mem _ hy)
      have hlen : (Ll ++ (a, ka, e0) :: Lr).length = Ll.length + 1 + Lr.length := by simp; omega
      rw [hlen] at hL
      rw [hlen]
      have b1 := tr_le d htl
      have b2 := tr_le d htr
      have hnx : no_R G M (a, ka, e0) := ⟨⟨_, _, _, hv⟩, hk⟩
      have hx60 : e0.1.length ≤ 60 := h60 _ hmx
      unfold srt at hs
      rw [List.map_append, List.map_cons, List.pairwise_append, List.pairwise_cons] at hs
      obtain ⟨sl, ⟨sx, sr⟩, sx2⟩ := hs
      have ol : ∀ y ∈ Ll, 0 < oc e0 y.2.2.1 y.2.2.2.1 := fun y hy => (oc_anti y.2.2 e0).1.mp (sx2 y.2.2 (List.mem_map.mpr ⟨y, hy, rfl⟩) e0 List.mem_cons_self)
      have orr : ∀ y ∈ Lr, oc e0 y.2.2.1 y.2.2.2.1 < 0 := fun y hy => sx y.2.2 (List.mem_map.mpr ⟨y, hy, rfl⟩)
      refine j_aload_n F d_TR_countSound_0 rfl rfl ?_
      refine j_ifnonnull F (r := some a) (tgt := 6) d_TR_countSound_1 (by decide) (fun x hx => ?_) (fun hx => by cases hx)
      refine j_iload_n F d_TR_countSound_6 rfl rfl ?_
      refine j_bipush F (v := 40) d_TR_countSound_7 (by decide) ?_
      refine j_icmp_ge F (tgt := 28) d_TR_countSound_9 (by decide) (fun hc => ?_) (fun hc => ?_)
      · have := (nI_leI (a := 40) (by decide) (by omega)).mp hc
        omega
      refine j_aload_n F d_TR_countSound_12 rfl rfl ?_
      refine j_callS F 1 (c_TR_isBalanced hl hv (tr_hv htl) (tr_hv htr) (by omega) (by omega) g1 g2) wl_TR_73 wst_TR_isBalanced wi_TR wco_TR_isBalanced (by decide +kernel) ⟨by dsimp only; omega, by dsimp only; omega⟩ rfl rfl (Nat.le_of_ble_eq_true rfl) (Nat.le_refl _) (Nat.le_refl _) d_TR_countSound_13 (fun E M1 hx => hx.elim) (fun r M1 hp => ?_)
      obtain ⟨rfl, rfl⟩ := hp
      refine j_if_eq F (tgt := 28) d_TR_countSound_16 (by decide) (fun hc => absurd hc (by decide)) (fun hc => ?_)
      refine j_aload_n F d_TR_countSound_19 rfl rfl ?_
      refine j_aload_nq F d_TR_countSound_20 rfl rfl ?_
      refine j_aload_nq F d_TR_countSound_21 rfl rfl ?_
      refine j_callS F 3 (c_TR_isBetween hl (y := (a, ka, e0)) hnx hx60 (fun z hz => ⟨(hlo z hz).1, (hlo z hz).2.1, (hlo z hz).2.2 _ hmx⟩) (fun z hz => ⟨(hhi z hz).1, (hhi z hz).2.1, (hhi z hz).2.2 _ hmx⟩)) wl_TR_77 wst_TR_isBetween wi_TR wco_TR_isBetween (by decide +kernel) ⟨by dsimp only; omega, by dsimp only; omega⟩ rfl rfl (Nat.le_of_ble_eq_true rfl) (Nat.le_refl _) (Nat.le_refl _) d_TR_countSound_22 (fun E M1 hx => hx.elim) (fun r M1 hp => ?_)
      obtain ⟨rfl, rfl⟩ := hp
      refine j_if_ne F (tgt := 30) d_TR_countSound_25 (by decide) (fun hc => ?_) (fun hc => absurd hc (by decide))
      refine j_aload_n F d_TR_countSound_30 rfl rfl ?_
      refine j_get F hv rfl in_VE 5 (by decide) wf_TR_23 rfl d_TR_countSound_31 ?_
      refine j_aload_nq F d_TR_countSound_34 rfl rfl ?_
      refine j_aload_n F d_TR_countSound_35 rfl rfl ?_
      refine j_iload_n F d_TR_countSound_36 rfl rfl ?_
      refine j_iconst F (v := 1) d_TR_countSound_37 (by decide) ?_
      refine j_iadd F d_TR_countSound_38 ?_
      refine j_val (y := nI (dep + 1)) (nI_1 _) ?_
      refine j_callS F 4 (ih lc Ll h1 (dep + 1) lo (some (a, ka, e0)) htl (by omega) (by omega) (fun y hy => h60 y (hml y hy)) sl (fun z hz => ⟨(hlo z hz).1, (hlo z hz).2.1, fun y hy => (hlo z hz).2.2 y (hml y hy)⟩) (fun z hz => by cases hz; exact ⟨hnx, hx60, ol⟩)) wl_TR_33 wst_TR_countSound wi_TR wco_TR_countSound (by decide +kernel) ⟨by dsimp only; omega, by dsimp only; omega⟩ rfl rfl (Nat.le_of_ble_eq_true rfl) (Nat.le_refl _) (Nat.le_refl _) d_TR_countSound_39 (fun E M1 hx => hx.elim) (fun r M1 hp => ?_)
      obtain ⟨rfl, rfl⟩ := hp
      refine j_istore F (lv1 := [(4, _), (0, _), (1, _), (2, _), (3, _)]) d_TR_countSound_42 (by decide) rfl ?_
      refine j_aload_n F d_TR_countSound_44 rfl rfl ?_
      refine j_get F hv rfl in_VE 6 (by decide) wf_TR_26 rfl d_TR_countSound_45 ?_
      refine j_aload_n F d_TR_countSound_48 rfl rfl ?_
      refine j_aload_nq F d_TR_countSound_49 rfl rfl ?_
      refine j_iload_n F d_TR_countSound_50 rfl rfl ?_
      refine j_iconst F (v := 1) d_TR_countSound_51 (by decide) ?_
      refine j_iadd F d_TR_countSound_52 ?_
      refine j_val (y := nI (dep + 1)) (nI_1 _) ?_
      refine j_callS F 4 (ih rc Lr h2 (dep + 1) (some (a, ka, e0)) hi htr (by omega) (by omega) (fun y hy => h60 y (hmr y hy)) sr (fun z hz => by cases hz; exact ⟨hnx, hx60, orr⟩) (fun z hz => ⟨(hhi z hz).1, (hhi z hz).2.1, fun y hy => (hhi z hz).2.2 y (hmr y hy)⟩)) wl_TR_33 wst_TR_countSound wi_TR wco_TR_countSound (by decide +kernel) ⟨by dsimp only; omega, by dsimp only; omega⟩ rfl rfl (Nat.le_of_ble_eq_true rfl) (Nat.le_refl _) (Nat.le_refl _) d_TR_countSound_53 (fun E M1 hx => hx.elim) (fun r M1 hp => ?_)
      obtain ⟨rfl, rfl⟩ := hp
      refine j_istore F (lv1 := [(5, _), (4, _), (0, _), (1, _), (2, _), (3, _)]) d_TR_countSound_56 (by decide) rfl ?_
      refine j_iload F d_TR_countSound_58 rfl ?_
      refine j_if_lt F (tgt := 68) d_TR_countSound_60 (by decide) (fun hc => absurd hc (nI_pos (by omega))) (fun hc => ?_)
      refine j_iload F d_TR_countSound_63 rfl ?_
      refine j_if_ge F (tgt := 72) d_TR_countSound_65 (by decide) (fun hc => ?_) (fun hc => absurd (nI_pos' (by omega)) hc)
      refine j_iload F d_TR_countSound_72 rfl ?_
      refine j_iconst F (v := 1) d_TR_countSound_74 (by decide) ?_
      refine j_iadd F d_TR_countSound_75 ?_
      refine j_val (y := nI (Ll.length + 1)) (nI_1 _) ?_
      refine j_iload F d_TR_countSound_76 rfl ?_
      refine j_iadd F d_TR_countSound_78 ?_
      refine j_val (y := nI (Ll.length + 1 + Lr.length)) (nI_add _ _) ?_
      exact j_iret F hr (Nat.le_refl _) (Nat.le_refl _) ⟨rfl, rfl⟩ d_TR_countSound_79
set_option maxHeartbeats 4000000 in
set_option maxRecDepth 100000 in
theorem c_TR_countIfSound (hl : l.stackTraces = false) {tt : Nat} {root : Option Nat} {nv : Int32} {L : List no_T} {h : Nat} (htt : M tt = some (.inr (1, [va_rf root, .int nv]))) (ht : tr G M h root L h) (hh : h ≤ 40) (hL : L.length ≤ 1000) (h60 : ∀ y ∈ L, y.2.2.1.length ≤ 60) (hs : srt (L.map (fun y => y.2.2))) : ct_C l G y_TR_countIfSound b_TR_countIfSound 1 (some .int) { frames := 50, cells := 0, slots := 0, locals := 1200 } [.ref tt] M (fun v M1 => M = M1 ∧ v = some (.int (nI L.length))) (fun _ _ => False) := by
  refine ct_of hl (by decide +kernel) (Nat.le_of_ble_eq_true rfl) ?_
  intro p e s m args below meth c F hr hnm
  refine j_aload_n F d_TR_countIfSound_0 rfl rfl ?_
  refine j_get F htt rfl in_TR 0 (by decide) wf_TR_7 rfl d_TR_countIfSound_1 ?_
  refine j_null F d_TR_countIfSound_4 ?_
  refine j_null F d_TR_countIfSound_5 ?_
  refine j_iconst F (v := 0) d_TR_countIfSound_6 (by decide) ?_
  refine j_callS F 4 (c_TR_countSound hl h root L h 0 none none ht (by omega) hL h60 hs (fun z hz => by cases hz) (fun z hz => by cases hz)) wl_TR_33 wst_TR_countSound wi_TR wco_TR_countSound (by decide +kernel) ⟨by dsimp only; omega, by dsimp only; omega⟩ rfl rfl (Nat.le_of_ble_eq_true rfl) (Nat.le_refl _) (Nat.le_refl _) d_TR_countIfSound_7 (fun E M1 hx => hx.elim) (fun r M1 hp => ?_)
  obtain ⟨rfl, rfl⟩ := hp
  exact j_iret F hr (Nat.le_refl _) (Nat.le_refl _) ⟨rfl, rfl⟩ d_TR_countIfSound_10
end CN1
end
section
/-- a version that the search passes by -/
def sk_P (k : ke_T) (m : Int32) (b : Bool) (e : en_T) : Prop := oc e k m < 0 ∨ (b = true ∧ oc e k m = 0)
theorem sk_of {es : List en_T} {k : ke_T} {m : Int32} {b : Bool} {n : Nat} (hs : srt es) (h1 : ∀ i e, i < n → es[i]? = some e → sk_P k m b e) (hn : n ≤ es.length) (h2 : ∀ e, es[n]? = some e → ¬ sk_P k m b e) : n = sk_v es k m b := by
  have hfl := fi_le es k m
  have hle : fi es k m ≤ n := by
    apply Nat.not_lt.mp
    intro z
    have hz : n < es.length := by omega
    exact h2 _ (List.getElem?_eq_getElem hz) (Or.inl (fi_lt z (List.getElem?_eq_getElem hz)))
  unfold sk_v
  by_cases hh : hit es k m = true
  · have hv := hit_le hh
    have he := List.getElem?_eq_getElem hv
    have h0 := (hit_of he).mp hh
    cases b with
    | false =>
      simp only [Bool.false_and]
      rw [if_neg (by decide)]
      apply Nat.le_antisymm _ hle
      apply Nat.not_lt.mp
      intro z
      rcases h1 _ _ z he with w | w
      · exact fi_at he w
      · cases w.1
    | true =>
      simp only [Bool.true_and]
      rw [if_pos hh]
      apply Nat.le_antisymm
      · apply Nat.not_lt.mp
        intro z
        have hz : fi es k m + 1 < es.length := by omega
        have h9 : oc es[fi es k m] es[fi es k m + 1].1 es[fi es k m + 1].2.1 < 0 := (List.pairwise_iff_getElem.mp hs) _ _ hv hz (Nat.lt_succ_self _)
        have h8 : oc es[fi es k m + 1] k m ≤ 0 := by
          rcases h1 _ _ z (List.getElem?_eq_getElem hz) with w | w
          · omega
          · omega
        have := oc_lt h9 h8
        omega
      · apply Nat.not_lt.mp
        intro z
        have hne : n = fi es k m := by omega
        rw [hne] at h2
        exact h2 _ he (Or.inr ⟨rfl, h0⟩)
  · rw [if_neg (by simp [hh])]
    apply Nat.le_antisymm _ hle
    apply Nat.not_lt.mp
    intro z
    have hv : fi es k m < es.length := by omega
    have he := List.getElem?_eq_getElem hv
    rcases h1 _ _ z he with w | w
    · exact fi_at he w
    · exact hh ((hit_of he).mpr w.2)
section FF1
variable {l : Launch} {G : gv_T} {M : mp_T}
set_option maxHeartbeats 4000000 in
set_option maxRecDepth 100000 in
theorem c_TR_firstFrom (hl : l.stackTraces = false) {tt ok : Nat} {root : Option Nat} {nv mm : Int32} {bb : Bool} {L : List no_T} {h : Nat} {k : ke_T} (htt : M tt = some (.inr (1, [va_rf root, .int nv]))) (ht : tr G M h root L h) (hh : h ≤ 40) (h60 : ∀ y ∈ L, y.2.2.1.length ≤ 60) (hs : srt (L.map (fun y => y.2.2))) (hk : ka_R G M ok k) (hk60 : k.length ≤ 60) : ct_C l G y_TR_firstFrom b_TR_firstFrom 8 (some (.object "MomentTree$Version")) { frames := 3, cells := 0, slots := 0, locals := 67 } [.ref tt, .ref ok, .int mm, .int (if bb then 1 else 0)] M (fun v M1 => M = M1 ∧ v = some (va_rf ((L[sk_v (L.map (fun y => y.2.2)) k mm bb]?).map (fun y => y.1)))) (fun _ _ => False) := by
  refine ct_of hl (by decide +kernel) (Nat.le_of_ble_eq_true rfl) ?_
  intro p e s m args below meth c F hr hnm
  refine j_null F d_TR_firstFrom_0 ?_
  refine j_astoreq F (r := none) (lv1 := [(4, va_rf none), (0, .ref tt), (1, .ref ok), (2, .int mm), (3, .int (if bb then 1 else 0))]) d_TR_firstFrom_1 (by decide) rfl ?_
  refine j_aload_n F d_TR_firstFrom_3 rfl rfl ?_
  refine j_get F htt rfl in_TR 0 (by decide) wf_TR_7 rfl d_TR_firstFrom_4 ?_
  refine j_astoreqC F (lv1 := [(5, _), (4, _), (0, _), (1, _), (2, _), (3, _)]) d_TR_firstFrom_7 (by decide) (by simp [rf_cat, ca_r, ca_i, ca_n]) rfl ?_
  refine j_iconst F (v := 0) d_TR_firstFrom_9 (by decide) ?_
  refine j_istoreC F (lv1 := [(6, _), (5, _), (4, _), (0, _), (1, _), (2, _), (3, _)]) d_TR_firstFrom_10 (by decide) (by simp [rf_cat, ca_r, ca_i, ca_n]) rfl ?_
  refine j_lv (lv1 := [(6, .int (nI 0)), (5, va_rf root), (4, va_rf none), (0, .ref tt), (1, .ref ok), (2, .int mm), (3, .int (if bb then 1 else 0))]) rfl ?_
  refine j_ind (α := Nat × Option Nat × Option Nat) (fun x => 41 - x.1) (fun _ => M) (fun _ => 0) (fun _ => 0) (fun x => [(6, .int (nI x.1)), (5, va_rf x.2.1), (4, va_rf x.2.2), (0, .ref tt), (1, .ref ok), (2, .int mm), (3, .int (if bb then 1 else 0))]) (fun _ => []) (fun x => ∃ (Lp Lc Ls : List no_T) (hc : Nat), L = Lp ++ Lc ++ Ls ∧ tr G M hc x.2.1 Lc hc ∧ x.1 + hc ≤ 40 ∧ (∀ y ∈ Lp, sk_P k mm bb y.2.2) ∧ (∀ y, Ls.head? = some y → ¬ sk_P k mm bb y.2.2) ∧ x.2.2 = Ls.head?.map (fun y => y.1)) ?_ (0, root, none) ⟨[], L, [], h, by simp, ht, by dsimp only; omega, fun y hy => (by cases hy), fun y hy => (by cases hy), rfl⟩
  intro x hx ih
  obtain ⟨dep, cat, fst⟩ := x
  obtain ⟨Lp, Lc, Ls, hc, hL, htc, hdp, hp1, hs1, hf⟩ := hx
  dsimp only at htc hdp hf ⊢
  refine j_aloadq F d_TR_firstFrom_12 rfl ?_
  cases cat with
  | none =>
    have hLc : Lc = [] := by
      cases hc <;> exact htc.1
    subst hLc
    rw [List.append_nil] at hL
    refine j_ifnull F (tgt := 74) d_TR_firstFrom_14 (by decide) (fun _ => ?_) (fun x hx => by cases hx)
    refine j_aloadq F d_TR_firstFrom_74 rfl ?_
    have hn : Lp.length = sk_v (L.map (fun y => y.2.2)) k mm bb := by
      refine sk_of hs (fun i e hi he => ?_) (by rw [hL]; simp) (fun e he => ?_)
      · rw [hL, List.map_append, List.getElem?_append_left (by simpa using hi), List.getElem?_map] at he
        cases h9 : Lp[i]? with
        | none => rw [h9] at he; cases he
        | some y => rw [h9] at he; cases he; exact hp1 y (List.mem_of_getElem? h9)
      · rw [hL, List.map_append, List.getElem?_append_right (by simp), List.length_map, Nat.sub_self, List.getElem?_map] at he
        cases h9 : Ls[0]? with
        | none => rw [h9] at he; cases he
        | some y => rw [h9] at he; cases he; exact hs1 y (by rw [List.head?_eq_getElem?]; exact h9)
    refine j_aret F hr (Or.inl ⟨_, rfl⟩) (rf_or _) (Nat.le_refl _) (Nat.le_refl _) ⟨rfl, ?_⟩ d_TR_firstFrom_76
    rw [← hn, hf, hL, List.getElem?_append_right (Nat.le_refl _), Nat.sub_self, List.head?_eq_getElem?]
  | some a =>
    cases hc with
    | zero => exact htc.elim
    | succ hc =>
      obtain ⟨ka, e0, lc, rc, Ll, Lr, h1, h2, hv, hky, htl, htr, rfl, hhc, g1, g2⟩ := htc
      have b1 := tr_le _ htl
      have b2 := tr_le _ htr
      have hmx : (a, ka, e0) ∈ L := by rw [hL]; simp
      have hx60 := h60 _ hmx
      refine j_ifnull F (r := some a) (tgt := 74) d_TR_firstFrom_14 (by decide) (fun hx => by cases hx) (fun x hx => ?_)
      refine j_iload F d_TR_firstFrom_17 rfl ?_
      refine j_bipush F (v := 40) d_TR_firstFrom_19 (by decide) ?_
      refine j_icmp_ge F (tgt := 74) d_TR_firstFrom_21 (by decide) (fun hc9 => ?_) (fun hc9 => ?_)
      · have := (nI_leI (a := 40) (by decide) (by omega)).mp hc9
        omega
      refine j_aload F d_TR_firstFrom_24 rfl ?_
      refine j_aload_n F d_TR_firstFrom_26 rfl rfl ?_
      refine j_iload_n F d_TR_firstFrom_27 rfl rfl ?_
      refine j_callV F 2 (c_VE_orderOf hl hv hky hk hx60 hk60 (mm := mm)) hv rfl wl_TR_17 wim_VE_orderOf wse_VE_orderOf wi_VE wco_VE_orderOf (by decide +kernel) (by decide) rfl rfl (Nat.le_of_ble_eq_true rfl) (by decide) (by decide) d_TR_firstFrom_28 (fun E M1 hx => hx.elim) (fun r M1 hp => ?_)
      obtain ⟨rfl, d, rfl, hd1, hd2⟩ := hp
      refine j_istore F (lv1 := [(7, _), (6, _), (5, _), (4, _), (0, _), (1, _), (2, _), (3, _)]) d_TR_firstFrom_31 (by decide) rfl ?_
      refine j_cut (α := Option Nat × Option Nat) (fun z => ∃ (Lp Lc Ls : List no_T) (h9 : Nat), L = Lp ++ Lc ++ Ls ∧ tr G M h9 z.1 Lc h9 ∧ dep + 1 + h9 ≤ 40 ∧ (∀ y ∈ Lp, sk_P k mm bb y.2.2) ∧ (∀ y, Ls.head? = some y → ¬ sk_P k mm bb y.2.2) ∧ z.2 = Ls.head?.map (fun y => y.1)) (fun _ => M) (fun _ => 0) (fun _ => 0) (fun z => [(5, va_rf z.1), (4, va_rf z.2), (7, .int d), (6, .int (nI dep)), (0, .ref tt), (1, .ref ok), (2, .int mm), (3, .int (if bb then 1 else 0))]) 68 (fun _ => []) ?_ (fun at68 => ?_)
      · skip
        intro z hz
        obtain ⟨z1, z2⟩ := z
        dsimp only
        refine j_iincC F (lv1 := [(6, _), (5, va_rf z1), (4, va_rf z2), (7, _), (0, .ref tt), (1, .ref ok), (2, .int mm), (3, .int (if bb then 1 else 0))]) d_TR_firstFrom_68 rfl (nI_1 dep) (by decide) (by simp [rf_cat, ca_r, ca_i, ca_n]) rfl ?_
        refine j_sub [0, 1, 2, 4, 5, 6, 7] rfl ?_
        refine j_goto F (tgt := 12) d_TR_firstFrom_71 (by decide) ?_
        exact ih (dep + 1, z1, z2) hz (by dsimp only; omega)
      refine j_cut (α := Unit) (fun _ => ¬ sk_P k mm bb e0) (fun _ => M) (fun _ => 0) (fun _ => 0) (fun _ => [(7, .int d), (6, .int (nI dep)), (5, .ref a), (4, va_rf fst), (0, .ref tt), (1, .ref ok), (2, .int mm), (3, .int (if bb then 1 else 0))]) 47 (fun _ => []) ?_ (fun at47 => ?_)
      · skip
        intro _ hno
        refine j_aload F d_TR_firstFrom_47 rfl ?_
        refine j_astoreq F (r := some a) (lv1 := [(4, va_rf (some a)), (7, .int d), (6, .int (nI dep)), (5, .ref a), (0, .ref tt), (1, .ref ok), (2, .int mm), (3, .int (if bb then 1 else 0))]) d_TR_firstFrom_49 (by decide) rfl ?_
        refine j_aload F d_TR_firstFrom_51 rfl ?_
        refine j_get F hv rfl in_VE 5 (by decide) wf_TR_23 rfl d_TR_firstFrom_53 ?_
        refine j_astoreqC F (lv1 := [(5, va_rf lc), (4, va_rf (some a)), (7, .int d), (6, .int (nI dep)), (0, .ref tt), (1, .ref ok), (2, .int mm), (3, .int (if bb then 1 else 0))]) d_TR_firstFrom_56 (by decide) (by simp [rf_cat, ca_r, ca_i, ca_n]) rfl ?_
        refine j_goto F (tgt := 68) d_TR_firstFrom_58 (by decide) ?_
        exact at68 (lc, some a) ⟨Lp, Ll, (a, ka, e0) :: (Lr ++ Ls), h1, by rw [hL]; simp, tr_fuel _ htl (Nat.le_refl _), by omega, hp1, fun y hy => by cases hy; exact hno, rfl⟩
      refine j_cut (α := Unit) (fun _ => sk_P k mm bb e0) (fun _ => M) (fun _ => 0) (fun _ => 0) (fun _ => [(7, .int d), (6, .int (nI dep)), (5, .ref a), (4, va_rf fst), (0, .ref tt), (1, .ref ok), (2, .int mm), (3, .int (if bb then 1 else 0))]) 61 (fun _ => []) ?_ (fun at61 => ?_)
      · skip
        intro _ hyes
        refine j_aload F d_TR_firstFrom_61 rfl ?_
        refine j_get F hv rfl in_VE 6 (by decide) wf_TR_26 rfl d_TR_firstFrom_63 ?_
        refine j_astoreqC F (lv1 := [(5, va_rf rc), (7, .int d), (6, .int (nI dep)), (4, va_rf fst), (0, .ref tt), (1, .ref ok), (2, .int mm), (3, .int (if bb then 1 else 0))]) d_TR_firstFrom_66 (by decide) (by simp [rf_cat, ca_r, ca_i, ca_n]) rfl ?_
        refine j_sub (lv1 := [(5, va_rf rc), (4, va_rf fst), (7, .int d), (6, .int (nI dep)), (0, .ref tt), (1, .ref ok), (2, .int mm), (3, .int (if bb then 1 else 0))]) [0, 3, 1, 2, 4, 5, 6, 7] rfl ?_
        have hle : oc e0 k mm ≤ 0 := by
          rcases hyes with w | w <;> omega
        refine at68 (rc, fst) ⟨Lp ++ Ll ++ [(a, ka, e0)], Lr, Ls, h2, by rw [hL]; simp, tr_fuel _ htr (Nat.le_refl _), by omega, fun y hy => ?_, hs1, hf⟩
        rcases List.mem_append.mp hy with w | w
        · rcases List.mem_append.mp w with w | w
          · exact hp1 y w
          · refine Or.inl (oc_lt ?_ hle)
            unfold srt at hs
            rw [hL, List.append_assoc, List.append_assoc, List.map_append, List.pairwise_append, List.map_append, List.pairwise_append] at hs
            exact hs.2.1.2.2 y.2.2 (List.mem_map.mpr ⟨y, w, rfl⟩) e0 (by simp)
        · rw [List.mem_singleton.mp w]; exact hyes
      refine j_iload F d_TR_firstFrom_33 rfl ?_
      refine j_if_lt F (tgt := 47) d_TR_firstFrom_35 (by decide) (fun hq1 => ?_) (fun hq1 => ?_)
      · skip
        exact at47 () (fun z => by
          have := hd1.mp hq1
          rcases z with w | w <;> omega)
      · skip
        refine j_iload F d_TR_firstFrom_38 rfl ?_
        refine j_if_ne F (tgt := 61) d_TR_firstFrom_40 (by decide) (fun hq2 => ?_) (fun hq2 => ?_)
        · skip
          exact at61 () (by
            have h1 : ¬ 0 < oc e0 k mm := fun z => hq1 (hd1.mpr z)
            have h2 : ¬ oc e0 k mm = 0 := fun z => hq2 (hd2.mpr z)
            exact Or.inl (by omega))
        · skip
          refine j_iload_n F d_TR_firstFrom_43 rfl rfl ?_
          refine j_if_ne F (tgt := 61) d_TR_firstFrom_44 (by decide) (fun hq3 => ?_) (fun hq3 => ?_)
          · skip
            exact at61 () (Or.inr ⟨by cases bb with
              | true => rfl
              | false => exact absurd rfl hq3, hd2.mp hq2⟩)
          · skip
            exact at47 () (fun z => by
              have h0 := hd2.mp hq2
              rcases z with w | w
              · omega
              · rw [w.1] at hq3
                exact absurd hq3 (by decide))
end FF1
end
section
theorem rf_nar (C : String) (r : Option Nat) : narrow (.object C) (va_rf r) = va_rf r := by cases r <;> rfl
theorem rf_fit (C : String) (r : Option Nat) : fits (.object C) (va_rf r) = true := by cases r <;> rfl
theorem hv_keep {M M1 : mp_T} {r : Option Nat} {h : Nat} (H : hv_R M r h) (hk : ∀ c, r = some c → M1 c = M c) : hv_R M1 r h := by
  rcases H with H | ⟨a, ka, e, l, r1, rfl, hv⟩
  · exact Or.inl H
  · exact Or.inr ⟨a, ka, e, l, r1, rfl, (hk a rfl).trans hv⟩
/-- every array stays -/
def ar_K (M M1 : mp_T) : Prop := ∀ q w, M q = some (.inl w) → M1 q = some (.inl w)
theorem tr_keep {G : gv_T} {M M1 : mp_T} {d : Nat} {r : Option Nat} {L : List no_T} {h : Nat} (ht : tr G M d r L h) (hk : ∀ y ∈ L, M1 y.1 = M y.1) (ha : ar_K M M1) : tr G M1 d r L h := by
  have key : ∀ (d : Nat) (r : Option Nat) (L : List no_T) (h : Nat), tr G M d r L h → (∀ y ∈ L, M1 y.1 = M y.1) → tr G M1 d r L h := by
    intro d
    induction d with
    | zero =>
      intro r L h ht _
      cases r with
      | none => exact ht
      | some a => exact ht
    | succ d ih =>
      intro r L h ht hk
      cases r with
      | none => exact ht
      | some a =>
        obtain ⟨ka, e, l, r, Ll, Lr, hl, hr, h1, ⟨kf, h2, h3⟩, h4, h5, rfl, h6⟩ := ht
        exact ⟨ka, e, l, r, Ll, Lr, hl, hr, (hk (a, ka, e) (List.mem_append_right _ List.mem_cons_self)).trans h1, ⟨kf, ha _ _ h2, h3⟩, ih _ _ _ h4 (fun y hy => hk y (List.mem_append_left _ hy)), ih _ _ _ h5 (fun y hy => hk y (List.mem_append_right _ (List.mem_cons_of_mem _ hy))), rfl, h6⟩
  exact key d r L h ht hk
/-- two versions' cells are written, all else stays -/
def tw_P (M0 M : mp_T) (a b : Nat) (ea eb : va_E) : Prop := M a = some ea ∧ M b = some eb ∧ ∀ q, q ≠ a → q ≠ b → M q = M0 q
theorem tw_a {M0 M : mp_T} {a b : Nat} {ea eb e : va_E} (hab : a ≠ b) (h : tw_P M0 M a b ea eb) : tw_P M0 (mp_U M a e) a b e eb := ⟨mp_Us _ _ _, (mp_Un (Ne.symm hab)).trans h.2.1, fun q h1 h2 => (mp_Un h1).trans (h.2.2 q h1 h2)⟩
theorem tw_b {M0 M : mp_T} {a b : Nat} {ea eb e : va_E} (hab : a ≠ b) (h : tw_P M0 M a b ea eb) : tw_P M0 (mp_U M b e) a b ea e := ⟨(mp_Un hab).trans h.1, mp_Us _ _ _, fun q h1 h2 => (mp_Un h2).trans (h.2.2 q h1 h2)⟩
theorem tw_ar {M0 M : mp_T} {a b : Nat} {ea eb : va_E} {ka kb : Nat} {xa xb : en_T} {ha hb : Int32} {la ra lb rb : Option Nat} (h : tw_P M0 M a b ea eb) (h1 : M0 a = some (vE ka xa ha la ra)) (h2 : M0 b = some (vE kb xb hb lb rb)) : ar_K M0 M := by
  intro q w hq
  refine (h.2.2 q (fun z => ?_) (fun z => ?_)).trans hq
  · rw [z, h1] at hq; cases hq
  · rw [z, h2] at hq; cases hq
section RO1
variable {l : Launch} {G : gv_T} {M : mp_T}
set_option maxHeartbeats 4000000 in
set_option maxRecDepth 100000 in
theorem c_TR_turnedRight (hl : l.stackTraces = false) {a b0 ka kb : Nat} {xa xb : en_T} {ha hb : Int32} {r1 r2 r3 : Option Nat} {h1 h2 h3 : Nat} (hva : M a = some (vE ka xa ha (some b0) r3)) (hvb : M b0 = some (vE kb xb hb r1 r2)) (H1 : hv_R M r1 h1) (H2 : hv_R M r2 h2) (H3 : hv_R M r3 h3) (hab : a ≠ b0) (n1 : ∀ c, r1 = some c → c ≠ a ∧ c ≠ b0) (n2 : ∀ c, r2 = some c → c ≠ a ∧ c ≠ b0) (n3 : ∀ c, r3 = some c → c ≠ a ∧ c ≠ b0) (za : G.2.2.1 ≤ a) (zb : G.2.2.1 ≤ b0) (b1 : h1 ≤ 500) (b2 : h2 ≤ 500) (b3 : h3 ≤ 500) : ct_C l G y_TR_turnedRight b_TR_turnedRight 2 (some (.object "MomentTree$Version")) { frames := 2, cells := 0, slots := 0, locals := 40 } [.ref a] M (fun v M1 => v = some (.ref b0) ∧ tw_P M M1 a b0 (vE ka xa (nI (max h2 h3 + 1)) r2 r3) (vE kb xb (nI (max h1 (max h2 h3 + 1) + 1)) r1 (some a))) (fun _ _ => False) := by
  refine ct_of hl (by decide +kernel) (Nat.le_of_ble_eq_true rfl) ?_
  intro p e s m args below meth c F hr hnm
  refine j_aload_n F d_TR_turnedRight_0 rfl rfl ?_
  refine j_ifnull F (r := some a) (tgt := 11) d_TR_turnedRight_1 (by decide) (fun hx => by cases hx) (fun x hx => ?_)
  refine j_aload_n F d_TR_turnedRight_4 rfl rfl ?_
  refine j_get F hva rfl in_VE 5 (by decide) wf_TR_23 rfl d_TR_turnedRight_5 ?_
  refine j_ifnonnull F (r := some b0) (tgt := 13) d_TR_turnedRight_8 (by decide) (fun x hx => ?_) (fun hx => by cases hx)
  refine j_aload_n F d_TR_turnedRight_13 rfl rfl ?_
  refine j_get F hva rfl in_VE 5 (by decide) wf_TR_23 rfl d_TR_turnedRight_14 ?_
  refine j_astore_n F (x := b0) (lv1 := [(1, .ref b0), (0, .ref a)]) d_TR_turnedRight_17 rfl (by decide) rfl ?_
  refine j_aload_n F d_TR_turnedRight_18 rfl rfl ?_
  refine j_aload_n F d_TR_turnedRight_19 rfl rfl ?_
  refine j_get F hvb rfl in_VE 6 (by decide) wf_TR_26 rfl d_TR_turnedRight_20 ?_
  refine j_put F hva za rfl in_VE ty_VE ok_VE nm_VE 5 (by decide) wf_TR_23 rfl (ty := .object "MomentTree$Version") (by decide +kernel) (rf_nar _ _) (rf_fit _ _) (Nat.le_of_ble_eq_true rfl) d_TR_turnedRight_23 ?_
  refine j_nmW (P := fun M1 => tw_P M M1 a b0 (vE ka xa ha r2 r3) (vE kb xb hb r1 r2)) (tw_a hab ⟨hva, hvb, fun _ _ _ => rfl⟩) (fun M1 S1 => ?_)
  refine j_aload_n F d_TR_turnedRight_26 rfl rfl ?_
  refine j_aload_n F d_TR_turnedRight_27 rfl rfl ?_
  refine j_put F S1.2.1 zb rfl in_VE ty_VE ok_VE nm_VE 6 (by decide) wf_TR_26 rfl (ty := .object "MomentTree$Version") (by decide +kernel) rfl rfl (Nat.le_of_ble_eq_true rfl) d_TR_turnedRight_28 ?_
  refine j_nmW (P := fun M1 => tw_P M M1 a b0 (vE ka xa ha r2 r3) (vE kb xb hb r1 (some a))) (tw_b hab S1) (fun M2 S2 => ?_)
  refine j_aload_n F d_TR_turnedRight_31 rfl rfl ?_
  refine j_aload_n F d_TR_turnedRight_32 rfl rfl ?_
  refine j_callS F 1 (c_TR_hfs hl S2.1 (hv_keep H2 (fun c hc => S2.2.2 c (n2 c hc).1 (n2 c hc).2)) (hv_keep H3 (fun c hc => S2.2.2 c (n3 c hc).1 (n3 c hc).2)) (by omega) (by omega)) wl_TR_48 wst_TR_heightFromSides wi_TR wco_TR_heightFromSides (by decide +kernel) (by decide) rfl rfl (Nat.le_of_ble_eq_true rfl) (by decide) (by decide) d_TR_turnedRight_33 (fun E M1 hx => hx.elim) (fun r M1 hp => ?_)
  obtain ⟨rfl, rfl⟩ := hp
  refine j_put F S2.1 za rfl in_VE ty_VE ok_VE nm_VE 4 (by decide) wf_TR_52 rfl (ty := .int) (by decide +kernel) rfl rfl (Nat.le_of_ble_eq_true rfl) d_TR_turnedRight_36 ?_
  refine j_nmW (P := fun M1 => tw_P M M1 a b0 (vE ka xa (nI (max h2 h3 + 1)) r2 r3) (vE kb xb hb r1 (some a))) (tw_a hab S2) (fun M3 S3 => ?_)
  refine j_aload_n F d_TR_turnedRight_39 rfl rfl ?_
  refine j_aload_n F d_TR_turnedRight_40 rfl rfl ?_
  refine j_callS F 1 (c_TR_hfs hl S3.2.1 (hv_keep H1 (fun c hc => S3.2.2 c (n1 c hc).1 (n1 c hc).2)) (Or.inr ⟨a, _, _, _, _, rfl, S3.1⟩) (by omega) (by omega)) wl_TR_48 wst_TR_heightFromSides wi_TR wco_TR_heightFromSides (by decide +kernel) (by decide) rfl rfl (Nat.le_of_ble_eq_true rfl) (by decide) (by decide) d_TR_turnedRight_41 (fun E M1 hx => hx.elim) (fun r M1 hp => ?_)
  obtain ⟨rfl, rfl⟩ := hp
  refine j_put F S3.2.1 zb rfl in_VE ty_VE ok_VE nm_VE 4 (by decide) wf_TR_52 rfl (ty := .int) (by decide +kernel) rfl rfl (Nat.le_of_ble_eq_true rfl) d_TR_turnedRight_44 ?_
  refine j_nmW (P := fun M1 => tw_P M M1 a b0 (vE ka xa (nI (max h2 h3 + 1)) r2 r3) (vE kb xb (nI (max h1 (max h2 h3 + 1) + 1)) r1 (some a))) (tw_b hab S3) (fun M4 S4 => ?_)
  refine j_aload_n F d_TR_turnedRight_47 rfl rfl ?_
  exact j_aret F hr (Or.inl ⟨_, rfl⟩) (Or.inr ⟨_, rfl⟩) (Nat.le_refl _) (Nat.le_refl _) ⟨rfl, S4⟩ d_TR_turnedRight_48
set_option maxHeartbeats 4000000 in
set_option maxRecDepth 100000 in
theorem c_TR_turnedLeft (hl : l.stackTraces = false) {a b0 ka kb : Nat} {xa xb : en_T} {ha hb : Int32} {r1 r2 r3 : Option Nat} {h1 h2 h3 : Nat} (hva : M a = some (vE ka xa ha r3 (some b0))) (hvb : M b0 = some (vE kb xb hb r2 r1)) (H1 : hv_R M r1 h1) (H2 : hv_R M r2 h2) (H3 : hv_R M r3 h3) (hab : a ≠ b0) (n1 : ∀ c, r1 = some c → c ≠ a ∧ c ≠ b0) (n2 : ∀ c, r2 = some c → c ≠ a ∧ c ≠ b0) (n3 : ∀ c, r3 = some c → c ≠ a ∧ c ≠ b0) (za : G.2.2.1 ≤ a) (zb : G.2.2.1 ≤ b0) (b1 : h1 ≤ 500) (b2 : h2 ≤ 500) (b3 : h3 ≤ 500) : ct_C l G y_TR_turnedLeft b_TR_turnedLeft 2 (some (.object "MomentTree$Version")) { frames := 2, cells := 0, slots := 0, locals := 40 } [.ref a] M (fun v M1 => v = some (.ref b0) ∧ tw_P M M1 a b0 (vE ka xa (nI (max h3 h2 + 1)) r3 r2) (vE kb xb (nI (max (max h3 h2 + 1) h1 + 1)) (some a) r1)) (fun _ _ => False) := by
  refine ct_of hl (by decide +kernel) (Nat.le_of_ble_eq_true rfl) ?_
  intro p e s m args below meth c F hr hnm
  refine j_aload_n F d_TR_turnedLeft_0 rfl rfl ?_
  refine j_ifnull F (r := some a) (tgt := 11) d_TR_turnedLeft_1 (by decide) (fun hx => by cases hx) (fun x hx => ?_)
  refine j_aload_n F d_TR_turnedLeft_4 rfl rfl ?_
  refine j_get F hva rfl in_VE 6 (by decide) wf_TR_26 rfl d_TR_turnedLeft_5 ?_
  refine j_ifnonnull F (r := some b0) (tgt := 13) d_TR_turnedLeft_8 (by decide) (fun x hx => ?_) (fun hx => by cases hx)
  refine j_aload_n F d_TR_turnedLeft_13 rfl rfl ?_
  refine j_get F hva rfl in_VE 6 (by decide) wf_TR_26 rfl d_TR_turnedLeft_14 ?_
  refine j_astore_n F (x := b0) (lv1 := [(1, .ref b0), (0, .ref a)]) d_TR_turnedLeft_17 rfl (by decide) rfl ?_
  refine j_aload_n F d_TR_turnedLeft_18 rfl rfl ?_
  refine j_aload_n F d_TR_turnedLeft_19 rfl rfl ?_
  refine j_get F hvb rfl in_VE 5 (by decide) wf_TR_23 rfl d_TR_turnedLeft_20 ?_
  refine j_put F hva za rfl in_VE ty_VE ok_VE nm_VE 6 (by decide) wf_TR_26 rfl (ty := .object "MomentTree$Version") (by decide +kernel) (rf_nar _ _) (rf_fit _ _) (Nat.le_of_ble_eq_true rfl) d_TR_turnedLeft_23 ?_
  refine j_nmW (P := fun M1 => tw_P M M1 a b0 (vE ka xa ha r3 r2) (vE kb xb hb r2 r1)) (tw_a hab ⟨hva, hvb, fun _ _ _ => rfl⟩) (fun M1 S1 => ?_)
  refine j_aload_n F d_TR_turnedLeft_26 rfl rfl ?_
  refine j_aload_n F d_TR_turnedLeft_27 rfl rfl ?_
  refine j_put F S1.2.1 zb rfl in_VE ty_VE ok_VE nm_VE 5 (by decide) wf_TR_23 rfl (ty := .object "MomentTree$Version") (by decide +kernel) rfl rfl (Nat.le_of_ble_eq_true rfl) d_TR_turnedLeft_28 ?_
  refine j_nmW (P := fun M1 => tw_P M M1 a b0 (vE ka xa ha r3 r2) (vE kb xb hb (some a) r1)) (tw_b hab S1) (fun M2 S2 => ?_)
  refine j_aload_n F d_TR_turnedLeft_31 rfl rfl ?_
  refine j_aload_n F d_TR_turnedLeft_32 rfl rfl ?_
  refine j_callS F 1 (c_TR_hfs hl S2.1 (hv_keep H3 (fun c hc => S2.2.2 c (n3 c hc).1 (n3 c hc).2)) (hv_keep H2 (fun c hc => S2.2.2 c (n2 c hc).1 (n2 c hc).2)) (by omega) (by omega)) wl_TR_48 wst_TR_heightFromSides wi_TR wco_TR_heightFromSides (by decide +kernel) (by decide) rfl rfl (Nat.le_of_ble_eq_true rfl) (by decide) (by decide) d_TR_turnedLeft_33 (fun E M1 hx => hx.elim) (fun r M1 hp => ?_)
  obtain ⟨rfl, rfl⟩ := hp
  refine j_put F S2.1 za rfl in_VE ty_VE ok_VE nm_VE 4 (by decide) wf_TR_52 rfl (ty := .int) (by decide +kernel) rfl rfl (Nat.le_of_ble_eq_true rfl) d_TR_turnedLeft_36 ?_
  refine j_nmW (P := fun M1 => tw_P M M1 a b0 (vE ka xa (nI (max h3 h2 + 1)) r3 r2) (vE kb xb hb (some a) r1)) (tw_a hab S2) (fun M3 S3 => ?_)
  refine j_aload_n F d_TR_turnedLeft_39 rfl rfl ?_
  refine j_aload_n F d_TR_turnedLeft_40 rfl rfl ?_
  refine j_callS F 1 (c_TR_hfs hl S3.2.1 (Or.inr ⟨a, _, _, _, _, rfl, S3.1⟩) (hv_keep H1 (fun c hc => S3.2.2 c (n1 c hc).1 (n1 c hc).2)) (by omega) (by omega)) wl_TR_48 wst_TR_heightFromSides wi_TR wco_TR_heightFromSides (by decide +kernel) (by decide) rfl rfl (Nat.le_of_ble_eq_true rfl) (by decide) (by decide) d_TR_turnedLeft_41 (fun E M1 hx => hx.elim) (fun r M1 hp => ?_)
  obtain ⟨rfl, rfl⟩ := hp
  refine j_put F S3.2.1 zb rfl in_VE ty_VE ok_VE nm_VE 4 (by decide) wf_TR_52 rfl (ty := .int) (by decide +kernel) rfl rfl (Nat.le_of_ble_eq_true rfl) d_TR_turnedLeft_44 ?_
  refine j_nmW (P := fun M1 => tw_P M M1 a b0 (vE ka xa (nI (max h3 h2 + 1)) r3 r2) (vE kb xb (nI (max (max h3 h2 + 1) h1 + 1)) (some a) r1)) (tw_b hab S3) (fun M4 S4 => ?_)
  refine j_aload_n F d_TR_turnedLeft_47 rfl rfl ?_
  exact j_aret F hr (Or.inl ⟨_, rfl⟩) (Or.inr ⟨_, rfl⟩) (Nat.le_refl _) (Nat.le_refl _) ⟨rfl, S4⟩ d_TR_turnedLeft_48
/-- the versions' addresses -/
abbrev ad_L (L : List no_T) : List Nat := L.map (fun y => y.1)
theorem tr_adr {G : gv_T} {M : mp_T} {d : Nat} {c : Nat} {L : List no_T} {h : Nat} (ht : tr G M d (some c) L h) : c ∈ ad_L L := by
  cases d with
  | zero => exact ht.elim
  | succ d =>
    obtain ⟨ka, e, l, r, Ll, Lr, hl, hr, -, -, -, -, rfl, -⟩ := ht
    exact List.mem_map.mpr ⟨(c, ka, e), List.mem_append_right _ List.mem_cons_self, rfl⟩
theorem tr_nd {G : gv_T} {M M1 : mp_T} {d : Nat} {r : Option Nat} {L : List no_T} {h : Nat} (ht : tr G M d r L h) (ha : ar_K M M1) (hk : ∀ q ∈ ad_L L, M1 q = M q) : tr G M1 d r L h := tr_keep ht (fun y hy => hk y.1 (List.mem_map.mpr ⟨y, hy, rfl⟩)) ha
theorem tr_node {G : gv_T} {M : mp_T} {a ka : Nat} {e : en_T} {l r : Option Nat} {Ll Lr : List no_T} {hl hr : Nat} (h1 : M a = some (vE ka e (nI (max hl hr + 1)) l r)) (h2 : ky G M ka e.1) (tl : tr G M hl l Ll hl) (tt : tr G M hr r Lr hr) (g1 : hl ≤ hr + 1) (g2 : hr ≤ hl + 1) : tr G M (max hl hr + 1) (some a) (Ll ++ (a, ka, e) :: Lr) (max hl hr + 1) := ⟨ka, e, l, r, Ll, Lr, hl, hr, h1, h2, tr_fuel _ tl (by omega), tr_fuel _ tt (by omega), rfl, rfl, g1, g2⟩
theorem ad_app (A B : List no_T) (x : no_T) : ad_L (A ++ x :: B) = ad_L A ++ x.1 :: ad_L B := by simp [ad_L]
set_option maxHeartbeats 4000000 in
set_option maxRecDepth 100000 in
theorem c_TR_balanced (hl : l.stackTraces = false) {a ka : Nat} {e0 : en_T} {ht0 : Int32} {lc rc : Option Nat} {Ll Lr : List no_T} {h1 h2 : Nat} (hv : M a = some (vE ka e0 ht0 lc rc)) (hky : ky G M ka e0.1) (tl : tr G M h1 lc Ll h1) (tr2 : tr G M h2 rc Lr h2) (g1 : h1 ≤ h2 + 2) (g2 : h2 ≤ h1 + 2) (b1 : h1 ≤ 400) (b2 : h2 ≤ 400) (nd : (ad_L (Ll ++ (a, ka, e0) :: Lr)).Nodup) (hz : ∀ q ∈ ad_L (Ll ++ (a, ka, e0) :: Lr), G.2.2.1 ≤ q) : ct_C l G y_TR_balanced b_TR_balanced 2 (some (.object "MomentTree$Version")) { frames := 3, cells := 0, slots := 0, locals := 70 } [.ref a] M (fun v M1 => ∃ (root : Option Nat) (h : Nat), v = some (va_rf root) ∧ tr G M1 h root (Ll ++ (a, ka, e0) :: Lr) h ∧ h ≤ max h1 h2 + 1 ∧ max h1 h2 ≤ h ∧ (h1 ≤ h2 + 1 → h2 ≤ h1 + 1 → h = max h1 h2 + 1) ∧ ar_K M M1 ∧ ∀ q, q ∉ ad_L (Ll ++ (a, ka, e0) :: Lr) → M1 q = M q) (fun _ _ => False) := by
  refine ct_of hl (by decide +kernel) (Nat.le_of_ble_eq_true rfl) ?_
  intro p e s m args below meth c F hr hnm
  rw [ad_app] at nd hz
  rw [List.nodup_append] at nd
  obtain ⟨nl, nr, nlr⟩ := nd
  rw [List.nodup_cons] at nr
  obtain ⟨nar, nr⟩ := nr
  have nal : a ∉ ad_L Ll := fun z => nlr a z a List.mem_cons_self rfl
  have za : G.2.2.1 ≤ a := hz a (List.mem_append_right _ List.mem_cons_self)
  have hti : (nI h1 - nI h2).toInt = (h1 : Int) - h2 := pk_sub_toInt (by omega) (by omega)
  have c1 : (1 : Int32).toInt = 1 := by decide
  have cm1 : (-1 : Int32).toInt = -1 := by decide
  refine j_aload_n F d_TR_balanced_0 rfl rfl ?_
  refine j_aload_n F d_TR_balanced_1 rfl rfl ?_
  refine j_callS F 1 (c_TR_hfs hl hv (tr_hv tl) (tr_hv tr2) (by omega) (by omega)) wl_TR_48 wst_TR_heightFromSides wi_TR wco_TR_heightFromSides (by decide +kernel) (by decide) rfl rfl (Nat.le_of_ble_eq_true rfl) (by decide) (by decide) d_TR_balanced_2 (fun E M1 hx => hx.elim) (fun r M1 hp => ?_)
  obtain ⟨rfl, rfl⟩ := hp
  refine j_put F hv za rfl in_VE ty_VE ok_VE nm_VE 4 (by decide) wf_TR_52 rfl (ty := .int) (by decide +kernel) rfl rfl (Nat.le_of_ble_eq_true rfl) d_TR_balanced_5 ?_
  refine j_nmW (P := fun M1 => M1 a = some (vE ka e0 (nI (max h1 h2 + 1)) lc rc) ∧ ∀ q, q ≠ a → M1 q = M q) ⟨mp_Us _ _ _, fun q hq => mp_Un hq⟩ (fun M1 S1 => ?_)
  obtain ⟨hv1, hf1⟩ := S1
  have ha1 : ar_K M M1 := fun q w hq => (hf1 q (fun z => by rw [z, hv] at hq; cases hq)).trans hq
  have tl1 : tr G M1 h1 lc Ll h1 := tr_nd tl ha1 (fun q hq => hf1 q (fun z => nal (by rw [← z]; exact hq)))
  have tr1 : tr G M1 h2 rc Lr h2 := tr_nd tr2 ha1 (fun q hq => hf1 q (fun z => nar (by rw [← z]; exact hq)))
  have hky1 : ky G M1 ka e0.1 := by
    obtain ⟨kf, q1, q2⟩ := hky
    exact ⟨kf, ha1 _ _ q1, q2⟩
  have out1 : ∀ q, q ∉ ad_L (Ll ++ (a, ka, e0) :: Lr) → q ≠ a := fun q hq z => hq (by rw [ad_app, z]; exact List.mem_append_right _ List.mem_cons_self)
  refine j_aload_n F d_TR_balanced_8 rfl rfl ?_
  refine j_callS F 1 (c_TR_leaning hl hv1 (tr_hv tl1) (tr_hv tr1) (by omega) (by omega)) wl_TR_55 wst_TR_leaning wi_TR wco_TR_leaning (by decide +kernel) (by decide) rfl rfl (Nat.le_of_ble_eq_true rfl) (by decide) (by decide) d_TR_balanced_9 (fun E M1 hx => hx.elim) (fun r M1 hp => ?_)
  obtain ⟨rfl, rfl⟩ := hp
  refine j_istore_n F (lv1 := [(1, _), (0, _)]) d_TR_balanced_12 rfl (by decide) rfl ?_
  refine j_iload_n F d_TR_balanced_13 rfl rfl ?_
  refine j_iconst F (v := 1) d_TR_balanced_14 (by decide) ?_
  refine j_icmp_le F (tgt := 44) d_TR_balanced_15 (by decide) (fun hq1 => ?_) (fun hq1 => ?_)
  · skip
    have hl1 : h1 ≤ h2 + 1 := by
      rw [Int32.le_iff_toInt_le, hti, c1] at hq1
      omega
    refine j_iload_n F d_TR_balanced_44 rfl rfl ?_
    refine j_iconst F (v := -1) d_TR_balanced_45 (by decide) ?_
    refine j_icmp_ge F (tgt := 75) d_TR_balanced_46 (by decide) (fun hq2 => ?_) (fun hq2 => ?_)
    · skip
      have hl2 : h2 ≤ h1 + 1 := by
        rw [Int32.le_iff_toInt_le, hti, cm1] at hq2
        omega
      refine j_aload_n F d_TR_balanced_75 rfl rfl ?_
      exact j_aret F hr (Or.inl ⟨_, rfl⟩) (Or.inr ⟨_, rfl⟩) (Nat.le_refl _) (Nat.le_refl _) ⟨some a, max h1 h2 + 1, rfl, ⟨ka, e0, lc, rc, Ll, Lr, h1, h2, hv1, hky1, tr_fuel _ tl1 (by omega), tr_fuel _ tr1 (by omega), rfl, rfl, hl1, hl2⟩, Nat.le_refl _, by omega, fun _ _ => rfl, ha1, fun q hq => hf1 q (out1 q hq)⟩ d_TR_balanced_76
    · skip
      have hgt : h2 = h1 + 2 := by
        have : ¬ (-1 ≤ nI h1 - nI h2) := hq2
        rw [Int32.le_iff_toInt_le, hti, cm1] at this
        omega
      cases hcx : rc with
      | none =>
        rw [hcx] at tr1
        have := tr1
        cases h2 with
        | zero => omega
        | succ n => exact absurd this.2 (by omega)
      | some b0 =>
        rw [hcx] at tr1 hv1
        obtain ⟨n1, rfl⟩ : ∃ n, h2 = n + 1 := ⟨h2 - 1, by omega⟩
        obtain ⟨kb, xb, l2, r2, L1, L2, g3, g4, hvb, hkb, t3, t4, rfl, hmx, gg1, gg2⟩ := tr1
        have q3 := tr_le _ t3
        have q4 := tr_le _ t4
        have hb0 : b0 ∈ ad_L (L1 ++ (b0, kb, xb) :: L2) := List.mem_map.mpr ⟨(b0, kb, xb), List.mem_append_right _ List.mem_cons_self, rfl⟩
        have zb : G.2.2.1 ≤ b0 := hz b0 (List.mem_append_right _ (List.mem_cons_of_mem _ hb0))
        have hab : a ≠ b0 := fun z => nar (by rw [z]; exact hb0)
        rw [ad_app] at nr nar nlr
        rw [List.nodup_append] at nr
        obtain ⟨m1, m2, m12⟩ := nr
        rw [List.nodup_cons] at m2
        obtain ⟨mb2, m2⟩ := m2
        have mb1 : b0 ∉ ad_L L1 := fun z => m12 b0 z b0 List.mem_cons_self rfl
        have a1n : a ∉ ad_L L1 := fun z => nar (List.mem_append_left _ z)
        have a2n : a ∉ ad_L L2 := fun z => nar (List.mem_append_right _ (List.mem_cons_of_mem _ z))
        have hYb : b0 ∉ ad_L Ll := fun z => nlr b0 z b0 (List.mem_cons_of_mem _ (List.mem_append_right _ List.mem_cons_self)) rfl
        have hti2 : (nI g3 - nI g4).toInt = (g3 : Int) - g4 := pk_sub_toInt (by omega) (by omega)
        refine j_aload_n F d_TR_balanced_49 rfl rfl ?_
        refine j_get F hv1 rfl in_VE 6 (by decide) wf_TR_26 rfl d_TR_balanced_50 ?_
        refine j_callS F 1 (c_TR_leaning hl hvb (tr_hv t3) (tr_hv t4) (by omega) (by omega)) wl_TR_55 wst_TR_leaning wi_TR wco_TR_leaning (by decide +kernel) (by decide) rfl rfl (Nat.le_of_ble_eq_true rfl) (by decide) (by decide) d_TR_balanced_53 (fun E M1 hx => hx.elim) (fun r M1 hp => ?_)
        obtain ⟨rfl, rfl⟩ := hp
        refine j_if_le F (tgt := 70) d_TR_balanced_56 (by decide) (fun hq3 => ?_) (fun hq3 => ?_)
        · skip
          have hge : g3 ≤ g4 := by
            rw [Int32.le_iff_toInt_le, hti2] at hq3
            have : (0 : Int32).toInt = 0 := by decide
            omega
          refine j_aload_n F d_TR_balanced_70 rfl rfl ?_
          refine j_callS F 1 (c_TR_turnedLeft hl hv1 hvb (tr_hv t4) (tr_hv t3) (tr_hv tl1) hab (fun c hc => by
    have hc9 := tr_adr (by rw [hc] at t4; exact t4)
    exact ⟨fun z => a2n (by rw [← z]; exact hc9), fun z => mb2 (by rw [← z]; exact hc9)⟩) (fun c hc => by
    have hc9 := tr_adr (by rw [hc] at t3; exact t3)
    exact ⟨fun z => a1n (by rw [← z]; exact hc9), fun z => mb1 (by rw [← z]; exact hc9)⟩) (fun c hc => by
    have hc9 := tr_adr (by rw [hc] at tl1; exact tl1)
    exact ⟨fun z => nal (by rw [← z]; exact hc9), fun z => hYb (by rw [← z]; exact hc9)⟩) za zb (by omega) (by omega) (by omega)) wl_TR_58 wst_TR_turnedLeft wi_TR wco_TR_turnedLeft (by decide +kernel) (by decide) rfl rfl (Nat.le_of_ble_eq_true rfl) (by decide) (by decide) d_TR_balanced_71 (fun E M1 hx => hx.elim) (fun r M4 hp => ?_)
          obtain ⟨rfl, S4⟩ := hp
          have ha4 := tw_ar S4 hv1 hvb
          have ka4 : ky G M4 ka e0.1 := by
            obtain ⟨kf, w1, w2⟩ := hky1
            exact ⟨kf, ha4 _ _ w1, w2⟩
          have kb4 : ky G M4 kb xb.1 := by
            obtain ⟨kf, w1, w2⟩ := hkb
            exact ⟨kf, ha4 _ _ w1, w2⟩
          have tO4 := tr_nd t4 ha4 (fun q hq => S4.2.2 q (fun z => a2n (by rw [← z]; exact hq)) (fun z => mb2 (by rw [← z]; exact hq)))
          have tI4 := tr_nd t3 ha4 (fun q hq => S4.2.2 q (fun z => a1n (by rw [← z]; exact hq)) (fun z => mb1 (by rw [← z]; exact hq)))
          have tY4 := tr_nd tl1 ha4 (fun q hq => S4.2.2 q (fun z => nal (by rw [← z]; exact hq)) (fun z => hYb (by rw [← z]; exact hq)))
          have hout : ∀ q, q ∉ ad_L (Ll ++ (a, ka, e0) :: (L1 ++ (b0, kb, xb) :: L2)) → q ≠ b0 := fun q hq z => hq (by rw [z]; simp [ad_L])
          have hE : Ll ++ (a, ka, e0) :: (L1 ++ (b0, kb, xb) :: L2) = (Ll ++ (a, ka, e0) :: L1) ++ (b0, kb, xb) :: L2 := by simp
          have hfin : tr G M4 (max (max h1 g3 + 1) g4 + 1) (some b0) (Ll ++ (a, ka, e0) :: (L1 ++ (b0, kb, xb) :: L2)) (max (max h1 g3 + 1) g4 + 1) := by
            rw [hE]
            exact tr_node S4.2.1 kb4 (tr_node S4.1 ka4 (tr_fuel _ tY4 (Nat.le_refl _)) (tr_fuel _ tI4 (Nat.le_refl _)) (by omega) (by omega)) (tr_fuel _ tO4 (Nat.le_refl _)) (by omega) (by omega)
          exact j_aret F hr (Or.inl ⟨_, rfl⟩) (Or.inr ⟨_, rfl⟩) (Nat.le_refl _) (Nat.le_refl _) ⟨some b0, _, rfl, hfin, by omega, by omega, fun _ _ => by omega, fun q w hq => ha4 q w (ha1 q w hq), fun q hq => (S4.2.2 q (out1 q hq) (hout q hq)).trans (hf1 q (out1 q hq))⟩ d_TR_balanced_74
        · skip
          have hlt : g4 < g3 := by
            have : ¬ (nI g3 - nI g4 ≤ 0) := hq3
            rw [Int32.le_iff_toInt_le, hti2] at this
            have : (0 : Int32).toInt = 0 := by decide
            omega
          cases hci : l2 with
          | none =>
            rw [hci] at t3
            exfalso
            have hz0 : g3 = 0 := by
              have h9 := t3
              cases n1 <;> exact h9.2
            omega
          | some c0 =>
            rw [hci] at t3 hvb
            obtain ⟨n2, hn2⟩ : ∃ n, n1 = n + 1 := ⟨n1 - 1, by omega⟩
            rw [hn2] at t3
            obtain ⟨kc0, xc, l5, r5, L5, L6, g5, g6, hvc, hkc, t5, t6, hL5, hmx2, gh1, gh2⟩ := t3
            subst hL5
            have q5 := tr_le _ t5
            have q6 := tr_le _ t6
            have hc0 : c0 ∈ ad_L (L5 ++ (c0, kc0, xc) :: L6) := List.mem_map.mpr ⟨(c0, kc0, xc), List.mem_append_right _ List.mem_cons_self, rfl⟩
            have zc : G.2.2.1 ≤ c0 := hz c0 (by refine List.mem_append_right _ (List.mem_cons_of_mem _ ?_); rw [ad_app]; exact List.mem_append_left _ hc0)
            have hac : a ≠ c0 := fun z => a1n (by rw [z]; exact hc0)
            have hbc : b0 ≠ c0 := fun z => mb1 (by rw [z]; exact hc0)
            have cO : c0 ∉ ad_L L2 := fun z => m12 c0 hc0 c0 (List.mem_cons_of_mem _ z) rfl
            have cY : c0 ∉ ad_L Ll := fun z => nlr c0 z c0 (List.mem_cons_of_mem _ (List.mem_append_left _ hc0)) rfl
            rw [ad_app] at m1 mb1 a1n
            rw [List.nodup_append] at m1
            obtain ⟨v5, v6, v56⟩ := m1
            rw [List.nodup_cons] at v6
            obtain ⟨vc6, v6⟩ := v6
            have vc5 : c0 ∉ ad_L L5 := fun z => v56 c0 z c0 List.mem_cons_self rfl
            have a5 : a ∉ ad_L L5 := fun z => a1n (List.mem_append_left _ z)
            have a6 : a ∉ ad_L L6 := fun z => a1n (List.mem_append_right _ (List.mem_cons_of_mem _ z))
            have bb5 : b0 ∉ ad_L L5 := fun z => mb1 (List.mem_append_left _ z)
            have bb6 : b0 ∉ ad_L L6 := fun z => mb1 (List.mem_append_right _ (List.mem_cons_of_mem _ z))
            refine j_aload_n F d_TR_balanced_59 rfl rfl ?_
            refine j_aload_n F d_TR_balanced_60 rfl rfl ?_
            refine j_get F hv1 rfl in_VE 6 (by decide) wf_TR_26 rfl d_TR_balanced_61 ?_
            refine j_callS F 1 (c_TR_turnedRight hl hvb hvc (tr_hv t5) (tr_hv t6) (tr_hv t4) hbc (fun c hc => by
    have hc9 := tr_adr (by rw [hc] at t5; exact t5)
    exact ⟨fun z => bb5 (by rw [← z]; exact hc9), fun z => vc5 (by rw [← z]; exact hc9)⟩) (fun c hc => by
    have hc9 := tr_adr (by rw [hc] at t6; exact t6)
    exact ⟨fun z => bb6 (by rw [← z]; exact hc9), fun z => vc6 (by rw [← z]; exact hc9)⟩) (fun c hc => by
    have hc9 := tr_adr (by rw [hc] at t4; exact t4)
    exact ⟨fun z => mb2 (by rw [← z]; exact hc9), fun z => cO (by rw [← z]; exact hc9)⟩) zb zc (by omega) (by omega) (by omega)) wl_TR_61 wst_TR_turnedRight wi_TR wco_TR_turnedRight (by decide +kernel) (by decide) rfl rfl (Nat.le_of_ble_eq_true rfl) (by decide) (by decide) d_TR_balanced_64 (fun E M1 hx => hx.elim) (fun r M3 hp => ?_)
            obtain ⟨rfl, S3⟩ := hp
            have ha3 := tw_ar S3 hvb hvc
            have hv3 := (S3.2.2 a hab hac).trans hv1
            refine j_put F hv3 za rfl in_VE ty_VE ok_VE nm_VE 6 (by decide) wf_TR_26 rfl (ty := .object "MomentTree$Version") (by decide +kernel) rfl rfl (Nat.le_of_ble_eq_true rfl) d_TR_balanced_67 ?_
            refine j_nmW (P := fun M5 => M5 a = some (vE ka e0 (nI (max h1 (n1 + 1) + 1)) lc (some c0)) ∧ ∀ q, q ≠ a → M5 q = M3 q) ⟨mp_Us _ _ _, fun q hq => mp_Un hq⟩ (fun M5 S5 => ?_)
            obtain ⟨hv5, hf5⟩ := S5
            have ha5 : ar_K M3 M5 := fun q w hq => (hf5 q (fun z => by rw [z, hv3] at hq; cases hq)).trans hq
            have hvb5 := (hf5 b0 (Ne.symm hab)).trans S3.1
            have hvc5 := (hf5 c0 (Ne.symm hac)).trans S3.2.1
            have T : ∀ (L9 : List no_T) (r9 : Option Nat) (h9 : Nat), tr G M1 h9 r9 L9 h9 → a ∉ ad_L L9 → b0 ∉ ad_L L9 → c0 ∉ ad_L L9 → tr G M5 h9 r9 L9 h9 := fun L9 r9 h9 t9 w1 w2 w3 => tr_nd (tr_nd t9 ha3 (fun q hq => S3.2.2 q (fun z => w2 (by rw [← z]; exact hq)) (fun z => w3 (by rw [← z]; exact hq)))) ha5 (fun q hq => hf5 q (fun z => w1 (by rw [← z]; exact hq)))
            have uO := T L2 r2 g4 (tr_fuel _ t4 (Nat.le_refl _)) a2n mb2 cO
            have u5 := T L5 l5 g5 (tr_fuel _ t5 (Nat.le_refl _)) a5 bb5 vc5
            have u6 := T L6 r5 g6 (tr_fuel _ t6 (Nat.le_refl _)) a6 bb6 vc6
            have uY := T Ll lc h1 (tr_fuel _ tl1 (Nat.le_refl _)) nal hYb cY
            have kA : ky G M5 ka e0.1 := by
              obtain ⟨kf, w1, w2⟩ := hky1
              exact ⟨kf, ha5 _ _ (ha3 _ _ w1), w2⟩
            have kB : ky G M5 kb xb.1 := by
              obtain ⟨kf, w1, w2⟩ := hkb
              exact ⟨kf, ha5 _ _ (ha3 _ _ w1), w2⟩
            have kC : ky G M5 kc0 xc.1 := by
              obtain ⟨kf, w1, w2⟩ := hkc
              exact ⟨kf, ha5 _ _ (ha3 _ _ w1), w2⟩
            refine j_aload_n F d_TR_balanced_70 rfl rfl ?_
            refine j_callS F 1 (c_TR_turnedLeft hl hv5 hvc5 (Or.inr ⟨b0, _, _, _, _, rfl, hvb5⟩) (tr_hv u5) (tr_hv uY) hac (fun c hc => by cases hc; exact ⟨Ne.symm hab, hbc⟩) (fun c hc => by
    have hc9 := tr_adr (by rw [hc] at u5; exact u5)
    exact ⟨fun z => a5 (by rw [← z]; exact hc9), fun z => vc5 (by rw [← z]; exact hc9)⟩) (fun c hc => by
    have hc9 := tr_adr (by rw [hc] at uY; exact uY)
    exact ⟨fun z => nal (by rw [← z]; exact hc9), fun z => cY (by rw [← z]; exact hc9)⟩) za zc (by omega) (by omega) (by omega)) wl_TR_58 wst_TR_turnedLeft wi_TR wco_TR_turnedLeft (by decide +kernel) (by decide) rfl rfl (Nat.le_of_ble_eq_true rfl) (by decide) (by decide) d_TR_balanced_71 (fun E M1 hx => hx.elim) (fun r M6 hp => ?_)
            obtain ⟨rfl, S6⟩ := hp
            have ha6 := tw_ar S6 hv5 hvc5
            have hvb6 := (S6.2.2 b0 (Ne.symm hab) hbc).trans hvb5
            have V : ∀ (L9 : List no_T) (r9 : Option Nat) (h9 : Nat), tr G M5 h9 r9 L9 h9 → a ∉ ad_L L9 → c0 ∉ ad_L L9 → tr G M6 h9 r9 L9 h9 := fun L9 r9 h9 t9 w1 w3 => tr_nd t9 ha6 (fun q hq => S6.2.2 q (fun z => w1 (by rw [← z]; exact hq)) (fun z => w3 (by rw [← z]; exact hq)))
            have wO := V _ _ _ uO a2n cO
            have w5 := V _ _ _ u5 a5 vc5
            have w6 := V _ _ _ u6 a6 vc6
            have wY := V _ _ _ uY nal cY
            have jA : ky G M6 ka e0.1 := by
              obtain ⟨kf, z1, z2⟩ := kA
              exact ⟨kf, ha6 _ _ z1, z2⟩
            have jB : ky G M6 kb xb.1 := by
              obtain ⟨kf, z1, z2⟩ := kB
              exact ⟨kf, ha6 _ _ z1, z2⟩
            have jC : ky G M6 kc0 xc.1 := by
              obtain ⟨kf, z1, z2⟩ := kC
              exact ⟨kf, ha6 _ _ z1, z2⟩
            have hob : ∀ q, q ∉ ad_L (Ll ++ (a, ka, e0) :: ((L5 ++ (c0, kc0, xc) :: L6) ++ (b0, kb, xb) :: L2)) → q ≠ b0 := fun q hq z => hq (by rw [z]; simp [ad_L])
            have hoc : ∀ q, q ∉ ad_L (Ll ++ (a, ka, e0) :: ((L5 ++ (c0, kc0, xc) :: L6) ++ (b0, kb, xb) :: L2)) → q ≠ c0 := fun q hq z => hq (by rw [z]; simp [ad_L])
            have hE : Ll ++ (a, ka, e0) :: ((L5 ++ (c0, kc0, xc) :: L6) ++ (b0, kb, xb) :: L2) = (Ll ++ (a, ka, e0) :: L5) ++ (c0, kc0, xc) :: (L6 ++ (b0, kb, xb) :: L2) := by simp
            have hfin : tr G M6 (max (max h1 g5 + 1) (max g6 g4 + 1) + 1) (some c0) (Ll ++ (a, ka, e0) :: ((L5 ++ (c0, kc0, xc) :: L6) ++ (b0, kb, xb) :: L2)) (max (max h1 g5 + 1) (max g6 g4 + 1) + 1) := by
              rw [hE]
              exact tr_node S6.2.1 jC (tr_node S6.1 jA wY w5 (by omega) (by omega)) (tr_node hvb6 jB w6 wO (by omega) (by omega)) (by omega) (by omega)
            exact j_aret F hr (Or.inl ⟨_, rfl⟩) (Or.inr ⟨_, rfl⟩) (Nat.le_refl _) (Nat.le_refl _) ⟨some c0, _, rfl, hfin, by omega, by omega, fun _ _ => by omega, fun q w hq => ha6 q w (ha5 q w (ha3 q w (ha1 q w hq))), fun q hq => ((S6.2.2 q (out1 q hq) (hoc q hq)).trans (hf5 q (out1 q hq))).trans ((S3.2.2 q (hob q hq) (hoc q hq)).trans (hf1 q (out1 q hq)))⟩ d_TR_balanced_74
  · skip
    have hgt : h1 = h2 + 2 := by
      have : ¬ (nI h1 - nI h2 ≤ 1) := hq1
      rw [Int32.le_iff_toInt_le, hti, c1] at this
      omega
    cases hcx : lc with
    | none =>
      rw [hcx] at tl1
      have := tl1
      cases h1 with
      | zero => omega
      | succ n => exact absurd this.2 (by omega)
    | some b0 =>
      rw [hcx] at tl1 hv1
      obtain ⟨n1, rfl⟩ : ∃ n, h1 = n + 1 := ⟨h1 - 1, by omega⟩
      obtain ⟨kb, xb, l2, r2, L1, L2, g3, g4, hvb, hkb, t3, t4, rfl, hmx, gg1, gg2⟩ := tl1
      have q3 := tr_le _ t3
      have q4 := tr_le _ t4
      have hb0 : b0 ∈ ad_L (L1 ++ (b0, kb, xb) :: L2) := List.mem_map.mpr ⟨(b0, kb, xb), List.mem_append_right _ List.mem_cons_self, rfl⟩
      have zb : G.2.2.1 ≤ b0 := hz b0 (List.mem_append_left _ hb0)
      have hab : a ≠ b0 := fun z => nal (by rw [z]; exact hb0)
      rw [ad_app] at nl nal nlr
      rw [List.nodup_append] at nl
      obtain ⟨m1, m2, m12⟩ := nl
      rw [List.nodup_cons] at m2
      obtain ⟨mb2, m2⟩ := m2
      have mb1 : b0 ∉ ad_L L1 := fun z => m12 b0 z b0 List.mem_cons_self rfl
      have a1n : a ∉ ad_L L1 := fun z => nal (List.mem_append_left _ z)
      have a2n : a ∉ ad_L L2 := fun z => nal (List.mem_append_right _ (List.mem_cons_of_mem _ z))
      have hYb : b0 ∉ ad_L Lr := fun z => nlr b0 (List.mem_append_right _ List.mem_cons_self) b0 (List.mem_cons_of_mem _ z) rfl
      have hti2 : (nI g3 - nI g4).toInt = (g3 : Int) - g4 := pk_sub_toInt (by omega) (by omega)
      refine j_aload_n F d_TR_balanced_18 rfl rfl ?_
      refine j_get F hv1 rfl in_VE 5 (by decide) wf_TR_23 rfl d_TR_balanced_19 ?_
      refine j_callS F 1 (c_TR_leaning hl hvb (tr_hv t3) (tr_hv t4) (by omega) (by omega)) wl_TR_55 wst_TR_leaning wi_TR wco_TR_leaning (by decide +kernel) (by decide) rfl rfl (Nat.le_of_ble_eq_true rfl) (by decide) (by decide) d_TR_balanced_22 (fun E M1 hx => hx.elim) (fun r M1 hp => ?_)
      obtain ⟨rfl, rfl⟩ := hp
      refine j_if_ge F (tgt := 39) d_TR_balanced_25 (by decide) (fun hq3 => ?_) (fun hq3 => ?_)
      · skip
        have hge : g4 ≤ g3 := by
          rw [Int32.le_iff_toInt_le, hti2] at hq3
          have : (0 : Int32).toInt = 0 := by decide
          omega
        refine j_aload_n F d_TR_balanced_39 rfl rfl ?_
        refine j_callS F 1 (c_TR_turnedRight hl hv1 hvb (tr_hv t3) (tr_hv t4) (tr_hv tr1) hab (fun c hc => by
    have hc9 := tr_adr (by rw [hc] at t3; exact t3)
    exact ⟨fun z => a1n (by rw [← z]; exact hc9), fun z => mb1 (by rw [← z]; exact hc9)⟩) (fun c hc => by
    have hc9 := tr_adr (by rw [hc] at t4; exact t4)
    exact ⟨fun z => a2n (by rw [← z]; exact hc9), fun z => mb2 (by rw [← z]; exact hc9)⟩) (fun c hc => by
    have hc9 := tr_adr (by rw [hc] at tr1; exact tr1)
    exact ⟨fun z => nar (by rw [← z]; exact hc9), fun z => hYb (by rw [← z]; exact hc9)⟩) za zb (by omega) (by omega) (by omega)) wl_TR_61 wst_TR_turnedRight wi_TR wco_TR_turnedRight (by decide +kernel) (by decide) rfl rfl (Nat.le_of_ble_eq_true rfl) (by decide) (by decide) d_TR_balanced_40 (fun E M1 hx => hx.elim) (fun r M4 hp => ?_)
        obtain ⟨rfl, S4⟩ := hp
        have ha4 := tw_ar S4 hv1 hvb
        have ka4 : ky G M4 ka e0.1 := by
          obtain ⟨kf, w1, w2⟩ := hky1
          exact ⟨kf, ha4 _ _ w1, w2⟩
        have kb4 : ky G M4 kb xb.1 := by
          obtain ⟨kf, w1, w2⟩ := hkb
          exact ⟨kf, ha4 _ _ w1, w2⟩
        have tO4 := tr_nd t3 ha4 (fun q hq => S4.2.2 q (fun z => a1n (by rw [← z]; exact hq)) (fun z => mb1 (by rw [← z]; exact hq)))
        have tI4 := tr_nd t4 ha4 (fun q hq => S4.2.2 q (fun z => a2n (by rw [← z]; exact hq)) (fun z => mb2 (by rw [← z]; exact hq)))
        have tY4 := tr_nd tr1 ha4 (fun q hq => S4.2.2 q (fun z => nar (by rw [← z]; exact hq)) (fun z => hYb (by rw [← z]; exact hq)))
        have hout : ∀ q, q ∉ ad_L ((L1 ++ (b0, kb, xb) :: L2) ++ (a, ka, e0) :: Lr) → q ≠ b0 := fun q hq z => hq (by rw [z]; simp [ad_L])
        have hE : (L1 ++ (b0, kb, xb) :: L2) ++ (a, ka, e0) :: Lr = L1 ++ (b0, kb, xb) :: (L2 ++ (a, ka, e0) :: Lr) := by simp
        have hfin : tr G M4 (max g3 (max g4 h2 + 1) + 1) (some b0) ((L1 ++ (b0, kb, xb) :: L2) ++ (a, ka, e0) :: Lr) (max g3 (max g4 h2 + 1) + 1) := by
          rw [hE]
          exact tr_node S4.2.1 kb4 (tr_fuel _ tO4 (Nat.le_refl _)) (tr_node S4.1 ka4 (tr_fuel _ tI4 (Nat.le_refl _)) (tr_fuel _ tY4 (Nat.le_refl _)) (by omega) (by omega)) (by omega) (by omega)
        exact j_aret F hr (Or.inl ⟨_, rfl⟩) (Or.inr ⟨_, rfl⟩) (Nat.le_refl _) (Nat.le_refl _) ⟨some b0, _, rfl, hfin, by omega, by omega, fun _ _ => by omega, fun q w hq => ha4 q w (ha1 q w hq), fun q hq => (S4.2.2 q (out1 q hq) (hout q hq)).trans (hf1 q (out1 q hq))⟩ d_TR_balanced_43
      · skip
        have hlt : g3 < g4 := by
          have : ¬ (0 ≤ nI g3 - nI g4) := hq3
          rw [Int32.le_iff_toInt_le, hti2] at this
          have : (0 : Int32).toInt = 0 := by decide
          omega
        cases hci : r2 with
        | none =>
          rw [hci] at t4
          exfalso
          have hz0 : g4 = 0 := by
            have h9 := t4
            cases n1 <;> exact h9.2
          omega
        | some c0 =>
          rw [hci] at t4 hvb
          obtain ⟨n2, hn2⟩ : ∃ n, n1 = n + 1 := ⟨n1 - 1, by omega⟩
          rw [hn2] at t4
          obtain ⟨kc0, xc, l5, r5, L5, L6, g5, g6, hvc, hkc, t5, t6, hL5, hmx2, gh1, gh2⟩ := t4
          subst hL5
          have q5 := tr_le _ t5
          have q6 := tr_le _ t6
          have hc0 : c0 ∈ ad_L (L5 ++ (c0, kc0, xc) :: L6) := List.mem_map.mpr ⟨(c0, kc0, xc), List.mem_append_right _ List.mem_cons_self, rfl⟩
          have zc : G.2.2.1 ≤ c0 := hz c0 (by refine List.mem_append_left _ ?_; rw [ad_app]; exact List.mem_append_right _ (List.mem_cons_of_mem _ hc0))
          have hac : a ≠ c0 := fun z => a2n (by rw [z]; exact hc0)
          have hbc : b0 ≠ c0 := fun z => mb2 (by rw [z]; exact hc0)
          have cO : c0 ∉ ad_L L1 := fun z => m12 c0 z c0 (List.mem_cons_of_mem _ hc0) rfl
          have cY : c0 ∉ ad_L Lr := fun z => nlr c0 (List.mem_append_right _ (List.mem_cons_of_mem _ hc0)) c0 (List.mem_cons_of_mem _ z) rfl
          rw [ad_app] at m2 mb2 a2n
          rw [List.nodup_append] at m2
          obtain ⟨v5, v6, v56⟩ := m2
          rw [List.nodup_cons] at v6
          obtain ⟨vc6, v6⟩ := v6
          have vc5 : c0 ∉ ad_L L5 := fun z => v56 c0 z c0 List.mem_cons_self rfl
          have a5 : a ∉ ad_L L5 := fun z => a2n (List.mem_append_left _ z)
          have a6 : a ∉ ad_L L6 := fun z => a2n (List.mem_append_right _ (List.mem_cons_of_mem _ z))
          have bb5 : b0 ∉ ad_L L5 := fun z => mb2 (List.mem_append_left _ z)
          have bb6 : b0 ∉ ad_L L6 := fun z => mb2 (List.mem_append_right _ (List.mem_cons_of_mem _ z))
          refine j_aload_n F d_TR_balanced_28 rfl rfl ?_
          refine j_aload_n F d_TR_balanced_29 rfl rfl ?_
          refine j_get F hv1 rfl in_VE 5 (by decide) wf_TR_23 rfl d_TR_balanced_30 ?_
          refine j_callS F 1 (c_TR_turnedLeft hl hvb hvc (tr_hv t6) (tr_hv t5) (tr_hv t3) hbc (fun c hc => by
    have hc9 := tr_adr (by rw [hc] at t6; exact t6)
    exact ⟨fun z => bb6 (by rw [← z]; exact hc9), fun z => vc6 (by rw [← z]; exact hc9)⟩) (fun c hc => by
    have hc9 := tr_adr (by rw [hc] at t5; exact t5)
    exact ⟨fun z => bb5 (by rw [← z]; exact hc9), fun z => vc5 (by rw [← z]; exact hc9)⟩) (fun c hc => by
    have hc9 := tr_adr (by rw [hc] at t3; exact t3)
    exact ⟨fun z => mb1 (by rw [← z]; exact hc9), fun z => cO (by rw [← z]; exact hc9)⟩) zb zc (by omega) (by omega) (by omega)) wl_TR_58 wst_TR_turnedLeft wi_TR wco_TR_turnedLeft (by decide +kernel) (by decide) rfl rfl (Nat.le_of_ble_eq_true rfl) (by decide) (by decide) d_TR_balanced_33 (fun E M1 hx => hx.elim) (fun r M3 hp => ?_)
          obtain ⟨rfl, S3⟩ := hp
          have ha3 := tw_ar S3 hvb hvc
          have hv3 := (S3.2.2 a hab hac).trans hv1
          refine j_put F hv3 za rfl in_VE ty_VE ok_VE nm_VE 5 (by decide) wf_TR_23 rfl (ty := .object "MomentTree$Version") (by decide +kernel) rfl rfl (Nat.le_of_ble_eq_true rfl) d_TR_balanced_36 ?_
          refine j_nmW (P := fun M5 => M5 a = some (vE ka e0 (nI (max (n1 + 1) h2 + 1)) (some c0) rc) ∧ ∀ q, q ≠ a → M5 q = M3 q) ⟨mp_Us _ _ _, fun q hq => mp_Un hq⟩ (fun M5 S5 => ?_)
          obtain ⟨hv5, hf5⟩ := S5
          have ha5 : ar_K M3 M5 := fun q w hq => (hf5 q (fun z => by rw [z, hv3] at hq; cases hq)).trans hq
          have hvb5 := (hf5 b0 (Ne.symm hab)).trans S3.1
          have hvc5 := (hf5 c0 (Ne.symm hac)).trans S3.2.1
          have T : ∀ (L9 : List no_T) (r9 : Option Nat) (h9 : Nat), tr G M1 h9 r9 L9 h9 → a ∉ ad_L L9 → b0 ∉ ad_L L9 → c0 ∉ ad_L L9 → tr G M5 h9 r9 L9 h9 := fun L9 r9 h9 t9 w1 w2 w3 => tr_nd (tr_nd t9 ha3 (fun q hq => S3.2.2 q (fun z => w2 (by rw [← z]; exact hq)) (fun z => w3 (by rw [← z]; exact hq)))) ha5 (fun q hq => hf5 q (fun z => w1 (by rw [← z]; exact hq)))
          have uO := T L1 l2 g3 (tr_fuel _ t3 (Nat.le_refl _)) a1n mb1 cO
          have u5 := T L5 l5 g5 (tr_fuel _ t5 (Nat.le_refl _)) a5 bb5 vc5
          have u6 := T L6 r5 g6 (tr_fuel _ t6 (Nat.le_refl _)) a6 bb6 vc6
          have uY := T Lr rc h2 (tr_fuel _ tr1 (Nat.le_refl _)) nar hYb cY
          have kA : ky G M5 ka e0.1 := by
            obtain ⟨kf, w1, w2⟩ := hky1
            exact ⟨kf, ha5 _ _ (ha3 _ _ w1), w2⟩
          have kB : ky G M5 kb xb.1 := by
            obtain ⟨kf, w1, w2⟩ := hkb
            exact ⟨kf, ha5 _ _ (ha3 _ _ w1), w2⟩
          have kC : ky G M5 kc0 xc.1 := by
            obtain ⟨kf, w1, w2⟩ := hkc
            exact ⟨kf, ha5 _ _ (ha3 _ _ w1), w2⟩
          refine j_aload_n F d_TR_balanced_39 rfl rfl ?_
          refine j_callS F 1 (c_TR_turnedRight hl hv5 hvc5 (Or.inr ⟨b0, _, _, _, _, rfl, hvb5⟩) (tr_hv u6) (tr_hv uY) hac (fun c hc => by cases hc; exact ⟨Ne.symm hab, hbc⟩) (fun c hc => by
    have hc9 := tr_adr (by rw [hc] at u6; exact u6)
    exact ⟨fun z => a6 (by rw [← z]; exact hc9), fun z => vc6 (by rw [← z]; exact hc9)⟩) (fun c hc => by
    have hc9 := tr_adr (by rw [hc] at uY; exact uY)
    exact ⟨fun z => nar (by rw [← z]; exact hc9), fun z => cY (by rw [← z]; exact hc9)⟩) za zc (by omega) (by omega) (by omega)) wl_TR_61 wst_TR_turnedRight wi_TR wco_TR_turnedRight (by decide +kernel) (by decide) rfl rfl (Nat.le_of_ble_eq_true rfl) (by decide) (by decide) d_TR_balanced_40 (fun E M1 hx => hx.elim) (fun r M6 hp => ?_)
          obtain ⟨rfl, S6⟩ := hp
          have ha6 := tw_ar S6 hv5 hvc5
          have hvb6 := (S6.2.2 b0 (Ne.symm hab) hbc).trans hvb5
          have V : ∀ (L9 : List no_T) (r9 : Option Nat) (h9 : Nat), tr G M5 h9 r9 L9 h9 → a ∉ ad_L L9 → c0 ∉ ad_L L9 → tr G M6 h9 r9 L9 h9 := fun L9 r9 h9 t9 w1 w3 => tr_nd t9 ha6 (fun q hq => S6.2.2 q (fun z => w1 (by rw [← z]; exact hq)) (fun z => w3 (by rw [← z]; exact hq)))
          have wO := V _ _ _ uO a1n cO
          have w5 := V _ _ _ u5 a5 vc5
          have w6 := V _ _ _ u6 a6 vc6
          have wY := V _ _ _ uY nar cY
          have jA : ky G M6 ka e0.1 := by
            obtain ⟨kf, z1, z2⟩ := kA
            exact ⟨kf, ha6 _ _ z1, z2⟩
          have jB : ky G M6 kb xb.1 := by
            obtain ⟨kf, z1, z2⟩ := kB
            exact ⟨kf, ha6 _ _ z1, z2⟩
          have jC : ky G M6 kc0 xc.1 := by
            obtain ⟨kf, z1, z2⟩ := kC
            exact ⟨kf, ha6 _ _ z1, z2⟩
          have hob : ∀ q, q ∉ ad_L ((L1 ++ (b0, kb, xb) :: (L5 ++ (c0, kc0, xc) :: L6)) ++ (a, ka, e0) :: Lr) → q ≠ b0 := fun q hq z => hq (by rw [z]; simp [ad_L])
          have hoc : ∀ q, q ∉ ad_L ((L1 ++ (b0, kb, xb) :: (L5 ++ (c0, kc0, xc) :: L6)) ++ (a, ka, e0) :: Lr) → q ≠ c0 := fun q hq z => hq (by rw [z]; simp [ad_L])
          have hE : (L1 ++ (b0, kb, xb) :: (L5 ++ (c0, kc0, xc) :: L6)) ++ (a, ka, e0) :: Lr = (L1 ++ (b0, kb, xb) :: L5) ++ (c0, kc0, xc) :: (L6 ++ (a, ka, e0) :: Lr) := by simp
          have hfin : tr G M6 (max (max g3 g5 + 1) (max g6 h2 + 1) + 1) (some c0) ((L1 ++ (b0, kb, xb) :: (L5 ++ (c0, kc0, xc) :: L6)) ++ (a, ka, e0) :: Lr) (max (max g3 g5 + 1) (max g6 h2 + 1) + 1) := by
            rw [hE]
            exact tr_node S6.2.1 jC (tr_node hvb6 jB wO w5 (by omega) (by omega)) (tr_node S6.1 jA w6 wY (by omega) (by omega)) (by omega) (by omega)
          exact j_aret F hr (Or.inl ⟨_, rfl⟩) (Or.inr ⟨_, rfl⟩) (Nat.le_refl _) (Nat.le_refl _) ⟨some c0, _, rfl, hfin, by omega, by omega, fun _ _ => by omega, fun q w hq => ha6 q w (ha5 q w (ha3 q w (ha1 q w hq))), fun q hq => ((S6.2.2 q (out1 q hq) (hoc q hq)).trans (hf5 q (out1 q hq))).trans ((S3.2.2 q (hob q hq) (hoc q hq)).trans (hf1 q (out1 q hq)))⟩ d_TR_balanced_43
end RO1
end
section
def in_L (L : List no_T) (v : Nat) (y : no_T) : List no_T := L.take v ++ y :: L.drop v
theorem in_perm (L : List no_T) (v : Nat) (y : no_T) : (in_L L v y).Perm (y :: L) := by
  have h := List.perm_middle (a := y) (l₁ := L.take v) (l₂ := L.drop v)
  rw [List.take_append_drop] at h
  exact h
theorem in_left {A B : List no_T} {v : Nat} (y : no_T) (hv : v ≤ A.length) : in_L (A ++ B) v y = in_L A v y ++ B := by
  unfold in_L
  rw [List.take_append_of_le_length hv, List.drop_append_of_le_length hv]
  simp
theorem in_right {A B : List no_T} (x y : no_T) (v : Nat) : in_L (A ++ x :: B) (A.length + 1 + v) y = A ++ x :: in_L B v y := by
  unfold in_L
  rw [List.take_append, List.drop_append, List.take_of_length_le (by omega), List.drop_of_length_le (by omega), show A.length + 1 + v - A.length = v + 1 by omega]
  simp
theorem fi_left {A B : List en_T} {x : en_T} {k : ke_T} {m : Int32} (hx : ¬ oc x k m < 0) : fi (A ++ x :: B) k m = fi A k m := by
  induction A with
  | nil => simp [fi, hx]
  | cons a t ih =>
    simp only [List.cons_append, fi]
    rw [ih]
theorem fi_right {A B : List en_T} {x : en_T} {k : ke_T} {m : Int32} (hA : ∀ e ∈ A, oc e k m < 0) (hx : oc x k m < 0) : fi (A ++ x :: B) k m = A.length + 1 + fi B k m := by
  induction A with
  | nil => simp [fi, hx]; omega
  | cons a t ih =>
    simp only [List.cons_append, fi]
    rw [if_pos (hA a List.mem_cons_self), ih (fun e he => hA e (List.mem_cons_of_mem _ he))]
    simp
    omega
theorem in_map (L : List no_T) (v : Nat) (y : no_T) : (in_L L v y).map (fun y => y.2.2) = pu_ins (L.map (fun y => y.2.2)) v y.2.2 := by
  unfold in_L pu_ins
  rw [List.map_append, List.map_cons, List.map_take, List.map_drop]
section AD1
variable {l : Launch} {G : gv_T}
set_option maxHeartbeats 16000000 in
set_option maxRecDepth 100000 in
theorem c_TR_withAdded (hl : l.stackTraces = false) (d : Nat) : ∀ (M : mp_T) (r : Option Nat) (L : List no_T) (h dep b0 kb : Nat) (xb : en_T), tr G M h r L h → h ≤ d → dep + d ≤ 40 → M b0 = some (vE kb xb (nI 1) none none) → ky G M kb xb.1 → b0 ∉ ad_L L → (ad_L L).Nodup → (∀ q ∈ ad_L L, G.2.2.1 ≤ q) → G.2.2.1 ≤ b0 → srt (L.map (fun y => y.2.2)) → (∀ y ∈ L, oc y.2.2 xb.1 xb.2.1 ≠ 0) → (∀ y ∈ L, y.2.2.1.length ≤ 60) → xb.1.length ≤ 60 → ct_C l G y_TR_withAdded b_TR_withAdded 3 (some (.object "MomentTree$Version")) { frames := 5 + d, cells := 0, slots := 0, locals := 120 + 25 * d } [va_rf r, .ref b0, .int (nI dep)] M (fun v M1 => ∃ (root : Option Nat) (h1 : Nat), v = some (va_rf root) ∧ tr G M1 h1 root (in_L L (fi (L.map (fun y => y.2.2)) xb.1 xb.2.1) (b0, kb, xb)) h1 ∧ h ≤ h1 ∧ h1 ≤ h + 1 ∧ ar_K M M1 ∧ ∀ q, q ≠ b0 → q ∉ ad_L L → M1 q = M q) (fun _ _ => False) := by
  induction d with
  | zero =>
    intro M r L h dep b0 kb xb ht hd hdp hvb hkb hnb nd hz zb hs hne h60 hb60
    refine ct_of hl (by decide +kernel) (by simp [lg_sl, rf_cat, ca_i, ca_r]) ?_
    intro p e s m args below meth c F hr hnm
    refine j_lv (lv1 := [(0, va_rf r), (1, .ref b0), (2, .int (nI dep))]) (by simp [lv_args, rf_cat, ca_r]) ?_
    cases r with
    | none =>
      obtain ⟨rfl, rfl⟩ : L = [] ∧ h = 0 := by cases h <;> exact ht
      refine j_aload_nq F d_TR_withAdded_0 rfl rfl ?_
      refine j_ifnonnull F (tgt := 6) d_TR_withAdded_1 (by decide) (fun x hx => by cases hx) (fun _ => ?_)
      refine j_aload_n F d_TR_withAdded_4 rfl rfl ?_
      have h0 : tr G M 0 none [] 0 := ⟨rfl, rfl⟩
      exact j_aret F hr (Or.inl ⟨_, rfl⟩) (Or.inr ⟨_, rfl⟩) (Nat.le_refl _) (Nat.le_refl _) ⟨some b0, 1, rfl, tr_node (hl := 0) (hr := 0) hvb hkb h0 h0 (by decide) (by decide), by decide, by decide, fun _ _ h => h, fun _ _ _ => rfl⟩ d_TR_withAdded_5
    | some a =>
      obtain rfl : h = 0 := by omega
      exact ht.elim
  | succ d ih =>
    intro M r L h dep b0 kb xb ht hd hdp hvb hkb hnb nd hz zb hs hne h60 hb60
    refine ct_of hl (by decide +kernel) (by simp [lg_sl, rf_cat, ca_i, ca_r]) ?_
    intro p e s m args below meth c F hr hnm
    refine j_lv (lv1 := [(0, va_rf r), (1, .ref b0), (2, .int (nI dep))]) (by simp [lv_args, rf_cat, ca_r]) ?_
    cases r with
    | none =>
      obtain ⟨rfl, rfl⟩ : L = [] ∧ h = 0 := by cases h <;> exact ht
      refine j_aload_nq F d_TR_withAdded_0 rfl rfl ?_
      refine j_ifnonnull F (tgt := 6) d_TR_withAdded_1 (by decide) (fun x hx => by cases hx) (fun _ => ?_)
      refine j_aload_n F d_TR_withAdded_4 rfl rfl ?_
      have h0 : tr G M 0 none [] 0 := ⟨rfl, rfl⟩
      exact j_aret F hr (Or.inl ⟨_, rfl⟩) (Or.inr ⟨_, rfl⟩) (Nat.le_refl _) (Nat.le_refl _) ⟨some b0, 1, rfl, tr_node (hl := 0) (hr := 0) hvb hkb h0 h0 (by decide) (by decide), by decide, by decide, fun _ _ h => h, fun _ _ _ => rfl⟩ d_TR_withAdded_5
    | some a =>
      cases h with
      | zero => exact ht.elim
      | succ h =>
        obtain ⟨ka, e0, lc, rc, Ll, Lr, g1, g2, hv, hk, tl, tt, rfl, hmx, gg1, gg2⟩ := ht
        have q1 := tr_le _ tl
        have q2 := tr_le _ tt
        have tl := tr_fuel _ tl (Nat.le_refl _)
        have tt := tr_fuel _ tt (Nat.le_refl _)
        have hmx2 : (a, ka, e0) ∈ Ll ++ (a, ka, e0) :: Lr := List.mem_append_right _ List.mem_cons_self
        have hml : ∀ y ∈ Ll, y ∈ Ll ++ (a, ka, e0) :: Lr := fun y hy => List.mem_append_left _ hy
        have hmr : ∀ y ∈ Lr, y ∈ Ll ++ (a, ka, e0) :: Lr := fun y hy => List.mem_append_right _ (List.mem_cons_of_mem _ hy)
        have hx60 : e0.1.length ≤ 60 := h60 _ hmx2
        have nd0 := nd
        have hz0 := hz
        have hnb0 := hnb
        rw [ad_app] at nd hz hnb
        rw [List.nodup_append] at nd
        obtain ⟨nl, nr, nlr⟩ := nd
        rw [List.nodup_cons] at nr
        obtain ⟨nar, nr⟩ := nr
        have nal : a ∉ ad_L Ll := fun z => nlr a z a List.mem_cons_self rfl
        have za : G.2.2.1 ≤ a := hz a (List.mem_append_right _ List.mem_cons_self)
        have hbl : b0 ∉ ad_L Ll := fun z => hnb (List.mem_append_left _ z)
        have hbr : b0 ∉ ad_L Lr := fun z => hnb (List.mem_append_right _ (List.mem_cons_of_mem _ z))
        have hba : b0 ≠ a := fun z => hnb (by rw [z]; exact List.mem_append_right _ List.mem_cons_self)
        have hs0 := hs
        unfold srt at hs
        rw [List.map_append, List.map_cons, List.pairwise_append, List.pairwise_cons] at hs
        obtain ⟨sl, ⟨sx, sr⟩, sx2⟩ := hs
        have hmapE : (Ll ++ (a, ka, e0) :: Lr).map (fun y => y.2.2) = Ll.map (fun y => y.2.2) ++ e0 :: Lr.map (fun y => y.2.2) := by simp
        refine j_aload_n F d_TR_withAdded_0 rfl rfl ?_
        refine j_ifnonnull F (r := some a) (tgt := 6) d_TR_withAdded_1 (by decide) (fun x hx => ?_) (fun hx => by cases hx)
        refine j_iload_n F d_TR_withAdded_6 rfl rfl ?_
        refine j_bipush F (v := 40) d_TR_withAdded_7 (by decide) ?_
        refine j_icmp_lt F (tgt := 14) d_TR_withAdded_9 (by decide) (fun hc => ?_) (fun hc => absurd ((nI_ltI (b := 40) (by omega) (by decide)).mpr (by omega)) hc)
        refine j_aload_n F d_TR_withAdded_14 rfl rfl ?_
        refine j_aload_n F d_TR_withAdded_15 rfl rfl ?_
        refine j_get F hvb rfl in_VE 0 (by decide) wf_TR_37 rfl d_TR_withAdded_16 ?_
        refine j_aload_n F d_TR_withAdded_19 rfl rfl ?_
        refine j_get F hvb rfl in_VE 1 (by decide) wf_TR_41 rfl d_TR_withAdded_20 ?_
        refine j_callV F 2 (c_VE_orderOf hl hv hk (Or.inl hkb) hx60 hb60 (mm := xb.2.1)) hv rfl wl_TR_17 wim_VE_orderOf wse_VE_orderOf wi_VE wco_VE_orderOf (by decide +kernel) ⟨by dsimp only; omega, by dsimp only; omega⟩ rfl rfl (Nat.le_of_ble_eq_true rfl) (Nat.le_refl _) (Nat.le_refl _) d_TR_withAdded_23 (fun E M1 hx => hx.elim) (fun r M1 hp => ?_)
        obtain ⟨rfl, d0, rfl, hd1, hd2⟩ := hp
        refine j_if_ge F (tgt := 47) d_TR_withAdded_26 (by decide) (fun hq1 => ?_) (fun hq1 => ?_)
        · skip
          have hoc : oc e0 xb.1 xb.2.1 < 0 := by
            have h1 : ¬ 0 < oc e0 xb.1 xb.2.1 := fun z => absurd (hd1.mpr z) (Int32.not_lt.mpr hq1)
            have h2 := hne _ hmx2
            dsimp only at h2
            omega
          have hal : ∀ e ∈ Ll.map (fun y => y.2.2), oc e xb.1 xb.2.1 < 0 := fun e he => oc_lt (sx2 e he e0 List.mem_cons_self) (by omega)
          have hfi : fi ((Ll ++ (a, ka, e0) :: Lr).map (fun y => y.2.2)) xb.1 xb.2.1 = Ll.length + 1 + fi (Lr.map (fun y => y.2.2)) xb.1 xb.2.1 := by rw [hmapE, fi_right hal hoc, List.length_map]
          rw [hfi, in_right (a, ka, e0) (b0, kb, xb)]
          refine j_aload_n F d_TR_withAdded_47 rfl rfl ?_
          refine j_aload_n F d_TR_withAdded_48 rfl rfl ?_
          refine j_get F hv rfl in_VE 6 (by decide) wf_TR_26 rfl d_TR_withAdded_49 ?_
          refine j_aload_n F d_TR_withAdded_52 rfl rfl ?_
          refine j_iload_n F d_TR_withAdded_53 rfl rfl ?_
          refine j_iconst F (v := 1) d_TR_withAdded_54 (by decide) ?_
          refine j_iadd F d_TR_withAdded_55 ?_
          refine j_val (y := nI (dep + 1)) (nI_1 _) ?_
          refine j_callS F 3 (ih M rc Lr g2 (dep + 1) b0 kb xb tt (by omega) (by omega) hvb hkb hbr nr (fun q hq => hz q (List.mem_append_right _ (List.mem_cons_of_mem _ hq))) zb sr (fun y hy => hne y (hmr y hy)) (fun y hy => h60 y (hmr y hy)) hb60) wl_TR_29 wst_TR_withAdded wi_TR wco_TR_withAdded (by decide +kernel) ⟨by dsimp only; omega, by dsimp only; omega⟩ rfl rfl (Nat.le_of_ble_eq_true rfl) (Nat.le_refl _) (Nat.le_refl _) d_TR_withAdded_56 (fun E M1 hx => hx.elim) (fun r M1 hp => ?_)
          obtain ⟨rt, h3, rfl, t3, w1, w2, ha1, hf1⟩ := hp
          generalize hX : in_L Lr (fi (Lr.map (fun y => y.2.2)) xb.1 xb.2.1) (b0, kb, xb) = LX at t3 ⊢
          have hpm : LX.Perm ((b0, kb, xb) :: Lr) := by rw [← hX]; exact in_perm _ _ _
          have hpa : (ad_L LX).Perm (b0 :: ad_L Lr) := hpm.map _
          have haX : a ∉ ad_L LX := fun z => (List.mem_cons.mp (hpa.mem_iff.mp z)).elim (fun w => hba w.symm) nar
          have hv1 := (hf1 a (Ne.symm hba) nar).trans hv
          refine j_put F hv1 za rfl in_VE ty_VE ok_VE nm_VE 6 (by decide) wf_TR_26 rfl (ty := .object "MomentTree$Version") (by decide +kernel) (rf_nar _ _) (rf_fit _ _) (Nat.le_of_ble_eq_true rfl) d_TR_withAdded_59 ?_
          refine j_nmW (P := fun M2 => M2 a = some (vE ka e0 (nI (h + 1)) lc rt) ∧ ∀ q, q ≠ a → M2 q = M1 q) ⟨mp_Us _ _ _, fun q hq => mp_Un hq⟩ (fun M2 S2 => ?_)
          obtain ⟨hv2, hf2⟩ := S2
          have ha2 : ar_K M1 M2 := fun q w hq => (hf2 q (fun z => by rw [z, hv1] at hq; cases hq)).trans hq
          have tX2 := tr_nd t3 ha2 (fun q hq => hf2 q (fun z => haX (by rw [← z]; exact hq)))
          have tY2 := tr_nd (tr_nd tl ha1 (fun q hq => hf1 q (fun z => hbl (by rw [← z]; exact hq)) (fun z => nlr q hq q (List.mem_cons_of_mem _ z) rfl))) ha2 (fun q hq => hf2 q (fun z => nal (by rw [← z]; exact hq)))
          have hk2 : ky G M2 ka e0.1 := by
            obtain ⟨kf, z1, z2⟩ := hk
            exact ⟨kf, ha2 _ _ (ha1 _ _ z1), z2⟩
          have hpf : (ad_L (Ll ++ (a, ka, e0) :: LX)).Perm (b0 :: ad_L (Ll ++ (a, ka, e0) :: Lr)) := by
            rw [ad_app, ad_app]
            refine List.Perm.trans (List.Perm.append_left _ (List.Perm.cons _ hpa)) ?_
            exact List.Perm.trans (List.Perm.append_left _ (List.Perm.swap _ _ _)) List.perm_middle
          have nd2 : (ad_L (Ll ++ (a, ka, e0) :: LX)).Nodup := hpf.nodup_iff.mpr (List.nodup_cons.mpr ⟨hnb0, nd0⟩)
          have hz2 : ∀ q ∈ ad_L (Ll ++ (a, ka, e0) :: LX), G.2.2.1 ≤ q := fun q hq => (List.mem_cons.mp (hpf.mem_iff.mp hq)).elim (fun z => by rw [z]; exact zb) (hz0 q)
          refine j_aload_n F d_TR_withAdded_62 rfl rfl ?_
          refine j_callS F 1 (c_TR_balanced hl hv2 hk2 tY2 tX2 (by omega) (by omega) (by omega) (by omega) nd2 hz2) wl_TR_44 wst_TR_balanced wi_TR wco_TR_balanced (by decide +kernel) ⟨by dsimp only; omega, by dsimp only; omega⟩ rfl rfl (Nat.le_of_ble_eq_true rfl) (Nat.le_refl _) (Nat.le_refl _) d_TR_withAdded_63 (fun E M1 hx => hx.elim) (fun r M3 hp => ?_)
          obtain ⟨rt2, h4, rfl, t4, z1, z2, z3, ha3, hf3⟩ := hp
          refine j_aret F hr (Or.inl ⟨_, rfl⟩) (rf_or _) (Nat.le_refl _) (Nat.le_refl _) ⟨rt2, h4, rfl, t4, by omega, by omega, fun q w hq => ha3 q w (ha2 q w (ha1 q w hq)), fun q y1 y2 => ?_⟩ d_TR_withAdded_66
          have y3 : q ∉ ad_L (Ll ++ (a, ka, e0) :: LX) := fun z => (List.mem_cons.mp (hpf.mem_iff.mp z)).elim y1 y2
          rw [ad_app] at y2
          exact (hf3 q y3).trans ((hf2 q (fun z => y2 (by rw [z]; exact List.mem_append_right _ List.mem_cons_self))).trans (hf1 q y1 (fun z => y2 (List.mem_append_right _ (List.mem_cons_of_mem _ z)))))
        · skip
          have hoc : 0 < oc e0 xb.1 xb.2.1 := hd1.mp (Int32.not_le.mp hq1)
          have hfi : fi ((Ll ++ (a, ka, e0) :: Lr).map (fun y => y.2.2)) xb.1 xb.2.1 = fi (Ll.map (fun y => y.2.2)) xb.1 xb.2.1 := by rw [hmapE, fi_left (by omega)]
          have hfl := fi_le (Ll.map (fun y => y.2.2)) xb.1 xb.2.1
          rw [List.length_map] at hfl
          rw [hfi, in_left (b0, kb, xb) hfl]
          refine j_aload_n F d_TR_withAdded_29 rfl rfl ?_
          refine j_aload_n F d_TR_withAdded_30 rfl rfl ?_
          refine j_get F hv rfl in_VE 5 (by decide) wf_TR_23 rfl d_TR_withAdded_31 ?_
          refine j_aload_n F d_TR_withAdded_34 rfl rfl ?_
          refine j_iload_n F d_TR_withAdded_35 rfl rfl ?_
          refine j_iconst F (v := 1) d_TR_withAdded_36 (by decide) ?_
          refine j_iadd F d_TR_withAdded_37 ?_
          refine j_val (y := nI (dep + 1)) (nI_1 _) ?_
          refine j_callS F 3 (ih M lc Ll g1 (dep + 1) b0 kb xb tl (by omega) (by omega) hvb hkb hbl nl (fun q hq => hz q (List.mem_append_left _ hq)) zb sl (fun y hy => hne y (hml y hy)) (fun y hy => h60 y (hml y hy)) hb60) wl_TR_29 wst_TR_withAdded wi_TR wco_TR_withAdded (by decide +kernel) ⟨by dsimp only; omega, by dsimp only; omega⟩ rfl rfl (Nat.le_of_ble_eq_true rfl) (Nat.le_refl _) (Nat.le_refl _) d_TR_withAdded_38 (fun E M1 hx => hx.elim) (fun r M1 hp => ?_)
          obtain ⟨rt, h3, rfl, t3, w1, w2, ha1, hf1⟩ := hp
          generalize hX : in_L Ll (fi (Ll.map (fun y => y.2.2)) xb.1 xb.2.1) (b0, kb, xb) = LX at t3 ⊢
          have hpm : LX.Perm ((b0, kb, xb) :: Ll) := by rw [← hX]; exact in_perm _ _ _
          have hpa : (ad_L LX).Perm (b0 :: ad_L Ll) := hpm.map _
          have haX : a ∉ ad_L LX := fun z => (List.mem_cons.mp (hpa.mem_iff.mp z)).elim (fun w => hba w.symm) nal
          have hv1 := (hf1 a (Ne.symm hba) nal).trans hv
          refine j_put F hv1 za rfl in_VE ty_VE ok_VE nm_VE 5 (by decide) wf_TR_23 rfl (ty := .object "MomentTree$Version") (by decide +kernel) (rf_nar _ _) (rf_fit _ _) (Nat.le_of_ble_eq_true rfl) d_TR_withAdded_41 ?_
          refine j_nmW (P := fun M2 => M2 a = some (vE ka e0 (nI (h + 1)) rt rc) ∧ ∀ q, q ≠ a → M2 q = M1 q) ⟨mp_Us _ _ _, fun q hq => mp_Un hq⟩ (fun M2 S2 => ?_)
          obtain ⟨hv2, hf2⟩ := S2
          have ha2 : ar_K M1 M2 := fun q w hq => (hf2 q (fun z => by rw [z, hv1] at hq; cases hq)).trans hq
          have tX2 := tr_nd t3 ha2 (fun q hq => hf2 q (fun z => haX (by rw [← z]; exact hq)))
          have tY2 := tr_nd (tr_nd tt ha1 (fun q hq => hf1 q (fun z => hbr (by rw [← z]; exact hq)) (fun z => nlr q z q (List.mem_cons_of_mem _ hq) rfl))) ha2 (fun q hq => hf2 q (fun z => nar (by rw [← z]; exact hq)))
          have hk2 : ky G M2 ka e0.1 := by
            obtain ⟨kf, z1, z2⟩ := hk
            exact ⟨kf, ha2 _ _ (ha1 _ _ z1), z2⟩
          have hpf : (ad_L (LX ++ (a, ka, e0) :: Lr)).Perm (b0 :: ad_L (Ll ++ (a, ka, e0) :: Lr)) := by
            rw [ad_app, ad_app]
            exact hpa.append_right _
          have nd2 : (ad_L (LX ++ (a, ka, e0) :: Lr)).Nodup := hpf.nodup_iff.mpr (List.nodup_cons.mpr ⟨hnb0, nd0⟩)
          have hz2 : ∀ q ∈ ad_L (LX ++ (a, ka, e0) :: Lr), G.2.2.1 ≤ q := fun q hq => (List.mem_cons.mp (hpf.mem_iff.mp hq)).elim (fun z => by rw [z]; exact zb) (hz0 q)
          refine j_goto F (tgt := 62) d_TR_withAdded_44 (by decide) ?_
          refine j_aload_n F d_TR_withAdded_62 rfl rfl ?_
          refine j_callS F 1 (c_TR_balanced hl hv2 hk2 tX2 tY2 (by omega) (by omega) (by omega) (by omega) nd2 hz2) wl_TR_44 wst_TR_balanced wi_TR wco_TR_balanced (by decide +kernel) ⟨by dsimp only; omega, by dsimp only; omega⟩ rfl rfl (Nat.le_of_ble_eq_true rfl) (Nat.le_refl _) (Nat.le_refl _) d_TR_withAdded_63 (fun E M1 hx => hx.elim) (fun r M3 hp => ?_)
          obtain ⟨rt2, h4, rfl, t4, z1, z2, z3, ha3, hf3⟩ := hp
          refine j_aret F hr (Or.inl ⟨_, rfl⟩) (rf_or _) (Nat.le_refl _) (Nat.le_refl _) ⟨rt2, h4, rfl, t4, by omega, by omega, fun q w hq => ha3 q w (ha2 q w (ha1 q w hq)), fun q y1 y2 => ?_⟩ d_TR_withAdded_66
          have y3 : q ∉ ad_L (LX ++ (a, ka, e0) :: Lr) := fun z => (List.mem_cons.mp (hpf.mem_iff.mp z)).elim y1 y2
          rw [ad_app] at y2
          exact (hf3 q y3).trans ((hf2 q (fun z => y2 (by rw [z]; exact List.mem_append_right _ List.mem_cons_self))).trans (hf1 q y1 (fun z => y2 (List.mem_append_left _ z))))
variable {M : mp_T}
set_option maxHeartbeats 4000000 in
set_option maxRecDepth 100000 in
theorem c_TR_add (hl : l.stackTraces = false) {tt b0 kb n h : Nat} {root : Option Nat} {L : List no_T} {xb : en_T} (htt : M tt = some (.inr (1, [va_rf root, .int (nI n)]))) (ztt : G.2.2.1 ≤ tt) (ht : tr G M h root L h) (hh : h ≤ 40) (hvb : M b0 = some (vE kb xb (nI 1) none none)) (hkb : ky G M kb xb.1) (hnb : b0 ∉ ad_L L) (nd : (ad_L L).Nodup) (hz : ∀ q ∈ ad_L L, G.2.2.1 ≤ q) (zb : G.2.2.1 ≤ b0) (hs : srt (L.map (fun y => y.2.2))) (hne : ∀ y ∈ L, oc y.2.2 xb.1 xb.2.1 ≠ 0) (h60 : ∀ y ∈ L, y.2.2.1.length ≤ 60) (hb60 : xb.1.length ≤ 60) : ct_C l G y_TR_add b_TR_add 2 none { frames := 50, cells := 0, slots := 0, locals := 1200 } [.ref tt, .ref b0] M (fun v M1 => v = none ∧ ∃ (root1 : Option Nat) (h1 : Nat), M1 tt = some (.inr (1, [va_rf root1, .int (nI (n + 1))])) ∧ tr G M1 h1 root1 (in_L L (fi (L.map (fun y => y.2.2)) xb.1 xb.2.1) (b0, kb, xb)) h1 ∧ ar_K M M1 ∧ ∀ q, q ≠ b0 → q ≠ tt → q ∉ ad_L L → M1 q = M q) (fun _ _ => False) := by
  refine ct_of hl (by decide +kernel) (Nat.le_of_ble_eq_true rfl) ?_
  intro p e s m args below meth c F hr hnm
  have htb : tt ≠ b0 := fun z => by rw [z, hvb] at htt; cases htt
  have htl : tt ∉ ad_L L := fun z => by
    obtain ⟨y, hy, hyt⟩ := List.mem_map.mp z
    obtain ⟨⟨w1, w2, w3, w4⟩, -⟩ := tr_no _ ht y hy
    rw [hyt, htt] at w4
    cases w4
  refine j_aload_n F d_TR_add_0 rfl rfl ?_
  refine j_aload_n F d_TR_add_1 rfl rfl ?_
  refine j_get F htt rfl in_TR 0 (by decide) wf_TR_7 rfl d_TR_add_2 ?_
  refine j_aload_n F d_TR_add_5 rfl rfl ?_
  refine j_iconst F (v := 0) d_TR_add_6 (by decide) ?_
  refine j_callS F 3 (c_TR_withAdded hl h M root L h 0 b0 kb xb ht (Nat.le_refl _) (by omega) hvb hkb hnb nd hz zb hs hne h60 hb60) wl_TR_29 wst_TR_withAdded wi_TR wco_TR_withAdded (by decide +kernel) ⟨by dsimp only; omega, by dsimp only; omega⟩ rfl rfl (Nat.le_of_ble_eq_true rfl) (Nat.le_refl _) (Nat.le_refl _) d_TR_add_7 (fun E M1 hx => hx.elim) (fun r M1 hp => ?_)
  obtain ⟨rt, h3, rfl, t3, -, -, ha1, hf1⟩ := hp
  have ht1 := (hf1 tt htb htl).trans htt
  refine j_put F ht1 ztt rfl in_TR ty_TR ok_TR nm_TR 0 (by decide) wf_TR_7 rfl (ty := .object "MomentTree$Version") (by decide +kernel) (rf_nar _ _) (rf_fit _ _) (Nat.le_of_ble_eq_true rfl) d_TR_add_10 ?_
  refine j_nmW (P := fun M2 => M2 tt = some (.inr (1, [va_rf rt, .int (nI n)])) ∧ ∀ q, q ≠ tt → M2 q = M1 q) ⟨mp_Us _ _ _, fun q hq => mp_Un hq⟩ (fun M2 S2 => ?_)
  refine j_aload_n F d_TR_add_13 rfl rfl ?_
  refine j_dup F d_TR_add_14 rfl ?_
  refine j_get F S2.1 rfl in_TR 1 (by decide) wf_TR_13 rfl d_TR_add_15 ?_
  refine j_iconst F (v := 1) d_TR_add_18 (by decide) ?_
  refine j_iadd F d_TR_add_19 ?_
  refine j_val (y := nI (n + 1)) (nI_1 _) ?_
  refine j_put F S2.1 ztt rfl in_TR ty_TR ok_TR nm_TR 1 (by decide) wf_TR_13 rfl (ty := .int) (by decide +kernel) rfl rfl (Nat.le_of_ble_eq_true rfl) d_TR_add_20 ?_
  refine j_nmW (P := fun M3 => M3 tt = some (.inr (1, [va_rf rt, .int (nI (n + 1))])) ∧ ∀ q, q ≠ tt → M3 q = M1 q) ⟨mp_Us _ _ _, fun q hq => (mp_Un hq).trans (S2.2 q hq)⟩ (fun M3 S3 => ?_)
  have ha3 : ar_K M1 M3 := fun q w hq => (S3.2 q (fun z => by rw [z, ht1] at hq; cases hq)).trans hq
  have hpm := (in_perm L (fi (L.map (fun y => y.2.2)) xb.1 xb.2.1) (b0, kb, xb)).map (fun y => y.1)
  exact j_vret F hr (Nat.le_refl _) (Nat.le_refl _) ⟨rfl, rt, h3, S3.1, tr_nd t3 ha3 (fun q hq => S3.2 q (fun z => (List.mem_cons.mp (hpm.mem_iff.mp hq)).elim (fun w => htb (z.symm.trans w)) (fun w => htl (by rw [← z]; exact w)))), fun q w hq => ha3 q w (ha1 q w hq), fun q y1 y2 y3 => (S3.2 q y2).trans (hf1 q y1 y3)⟩ d_TR_add_23
end AD1
end
section
/-- x's cell -/
abbrev xE (ta : Nat) (n : Int32) (tt : Nat) (cur : Option Nat) : va_E := .inr (0, [.ref ta, .int n, .ref tt, va_rf cur])
def by4 (w : Int32) : ke_T := [b1 w 0, b1 w 1, b1 w 2, b1 w 3]
theorem by20_4 (a b c d e : Int32) : by20 a b c d e = by4 a ++ by4 b ++ by4 c ++ by4 d ++ by4 e := rfl
theorem by_fit {x : Int32} (h : vp_nar .byte x = x) : fits .byte (.int x) = true := by
  rw [← h]
  exact pk_fb x
/-- a tree that is high has many versions -/
theorem tr_big {G : gv_T} {M : mp_T} (d : Nat) : ∀ {r : Option Nat} {L : List no_T} {h : Nat}, tr G M d r L h → ∀ j, 2 * j ≤ h → 2 ^ j ≤ L.length + 1 := by
  induction d with
  | zero =>
    intro r L h ht j hj
    cases r with
    | none => rw [ht.2] at hj; obtain rfl : j = 0 := by omega
              rw [ht.1]; decide
    | some a => exact ht.elim
  | succ d ih =>
    intro r L h ht j hj
    cases r with
    | none => rw [ht.2] at hj; obtain rfl : j = 0 := by omega
              rw [ht.1]; decide
    | some a =>
      obtain ⟨ka, e, l, r, Ll, Lr, hl, hr, -, -, h3, h4, rfl, h6, g1, g2⟩ := ht
      cases j with
      | zero => simp
      | succ j =>
        have q1 := ih h3 j (by omega)
        have q2 := ih h4 j (by omega)
        rw [List.length_append, List.length_cons, Nat.pow_succ]
        omega
theorem tr_h {G : gv_T} {M : mp_T} {d : Nat} {r : Option Nat} {L : List no_T} {h : Nat} (ht : tr G M d r L h) (hL : L.length ≤ 200) : h ≤ 15 := by
  apply Nat.not_lt.mp
  intro z
  have := tr_big d ht 8 (by omega)
  have h8 : 2 ^ 8 = 256 := by decide
  omega
section MT1
variable {l : Launch} {G : gv_T} {M : mp_T}
set_option maxHeartbeats 4000000 in
set_option maxRecDepth 100000 in
theorem c_TR_init (hl : l.stackTraces = false) {tt : Nat} (htt : M tt = some (.inr (1, [.null, .int 0]))) (ztt : G.2.2.1 ≤ tt) : cn_C l G y_TR_init b_TR_init 1 { frames := 1, cells := 0, slots := 0, locals := 20 } [.ref tt] M (fun r M1 => r = none ∧ M1 tt = some (.inr (1, [va_rf none, .int (nI 0)])) ∧ ∀ q, q ≠ tt → M1 q = M q) := by
  refine cn_of hl (by decide +kernel) (Nat.le_of_ble_eq_true rfl) ?_
  intro p e s m args below meth c F hr hnm
  refine j_aload_n F d_TR_init_0 rfl rfl ?_
  refine j_obj F wl_TR_1 wim_JO_init wco_JO_init (by decide) (Nat.le_of_ble_eq_true rfl) d_TR_init_1 ?_
  refine j_aload_n F d_TR_init_4 rfl rfl ?_
  refine j_null F d_TR_init_5 ?_
  refine j_put F htt ztt rfl in_TR ty_TR ok_TR nm_TR 0 (by decide) wf_TR_7 rfl (ty := .object "MomentTree$Version") (by decide +kernel) rfl rfl (Nat.le_of_ble_eq_true rfl) d_TR_init_6 ?_
  refine j_nmW (P := fun M1 => M1 tt = some (.inr (1, [.null, .int 0])) ∧ ∀ q, q ≠ tt → M1 q = M q) ⟨mp_Us _ _ _, fun q hq => mp_Un hq⟩ (fun M1 S1 => ?_)
  refine j_aload_n F d_TR_init_9 rfl rfl ?_
  refine j_iconst F (v := 0) d_TR_init_10 (by decide) ?_
  refine j_put F S1.1 ztt rfl in_TR ty_TR ok_TR nm_TR 1 (by decide) wf_TR_13 rfl (ty := .int) (by decide +kernel) rfl rfl (Nat.le_of_ble_eq_true rfl) d_TR_init_11 ?_
  exact j_cret F hr (Nat.le_refl _) (Nat.le_refl _) ⟨rfl, mp_Us _ _ _, fun q hq => (mp_Un hq).trans (S1.2 q hq)⟩ d_TR_init_14
set_option maxHeartbeats 4000000 in
set_option maxRecDepth 100000 in
theorem c_TR_empty (hl : l.stackTraces = false) {tt : Nat} {root : Option Nat} {nv : Int32} (htt : M tt = some (.inr (1, [va_rf root, .int nv]))) (ztt : G.2.2.1 ≤ tt) : ct_C l G y_TR_empty b_TR_empty 1 none { frames := 0, cells := 0, slots := 0, locals := 0 } [.ref tt] M (fun r M1 => r = none ∧ M1 tt = some (.inr (1, [va_rf none, .int (nI 0)])) ∧ ∀ q, q ≠ tt → M1 q = M q) (fun _ _ => False) := by
  refine ct_of hl (by decide +kernel) (Nat.le_of_ble_eq_true rfl) ?_
  intro p e s m args below meth c F hr hnm
  refine j_aload_n F d_TR_empty_0 rfl rfl ?_
  refine j_null F d_TR_empty_1 ?_
  refine j_put F htt ztt rfl in_TR ty_TR ok_TR nm_TR 0 (by decide) wf_TR_7 rfl (ty := .object "MomentTree$Version") (by decide +kernel) rfl rfl (Nat.le_of_ble_eq_true rfl) d_TR_empty_2 ?_
  refine j_nmW (P := fun M1 => M1 tt = some (.inr (1, [.null, .int nv])) ∧ ∀ q, q ≠ tt → M1 q = M q) ⟨mp_Us _ _ _, fun q hq => mp_Un hq⟩ (fun M1 S1 => ?_)
  refine j_aload_n F d_TR_empty_5 rfl rfl ?_
  refine j_iconst F (v := 0) d_TR_empty_6 (by decide) ?_
  refine j_put F S1.1 ztt rfl in_TR ty_TR ok_TR nm_TR 1 (by decide) wf_TR_13 rfl (ty := .int) (by decide +kernel) rfl rfl (Nat.le_of_ble_eq_true rfl) d_TR_empty_7 ?_
  exact j_vret F hr (Nat.le_refl _) (Nat.le_refl _) ⟨rfl, mp_Us _ _ _, fun q hq => (mp_Un hq).trans (S1.2 q hq)⟩ d_TR_empty_10
set_option maxHeartbeats 4000000 in
set_option maxRecDepth 100000 in
theorem c_VE_init (hl : l.stackTraces = false) {b0 kb : Nat} {k : ke_T} {mm pp zz : Int32} (hb : M b0 = some (.inr (2, [.null, .int 0, .int 0, .int 0, .int 0, .null, .null]))) (zb : G.2.2.1 ≤ b0) : cn_C l G y_VE_init b_VE_init 5 { frames := 1, cells := 0, slots := 0, locals := 20 } [.ref b0, .ref kb, .int mm, .int pp, .int zz] M (fun r M1 => r = none ∧ M1 b0 = some (vE kb (k, mm, pp, zz) (nI 1) none none) ∧ ∀ q, q ≠ b0 → M1 q = M q) := by
  refine cn_of hl (by decide +kernel) (Nat.le_of_ble_eq_true rfl) ?_
  intro p e s m args below meth c F hr hnm
  refine j_aload_n F d_VE_init_0 rfl rfl ?_
  refine j_obj F wl_VE_1 wim_JO_init wco_JO_init (by decide) (Nat.le_of_ble_eq_true rfl) d_VE_init_1 ?_
  refine j_aload_n F d_VE_init_4 rfl rfl ?_
  refine j_aload_n F d_VE_init_5 rfl rfl ?_
  refine j_putF F hb zb rfl in_VE ty_VE ok_VE nm_VE 0 (by decide) wf_VE_7 rfl hnm rfl (ty := .array .byte) (by decide +kernel) rfl rfl (Nat.le_of_ble_eq_true rfl) d_VE_init_6 ?_
  refine j_nmW (P := fun M1 => M1 b0 = some (.inr (2, [.ref kb, .int 0, .int 0, .int 0, .int 0, .null, .null])) ∧ ∀ q, q ≠ b0 → M1 q = M q) ⟨mp_Us _ _ _, fun q hq => mp_Un hq⟩ (fun M1 S1 => ?_)
  refine j_aload_n F d_VE_init_9 rfl rfl ?_
  refine j_iload_n F d_VE_init_10 rfl rfl ?_
  refine j_putF F S1.1 zb rfl in_VE ty_VE ok_VE nm_VE 1 (by decide) wf_VE_13 rfl hnm rfl (ty := .int) (by decide +kernel) rfl rfl (Nat.le_of_ble_eq_true rfl) d_VE_init_11 ?_
  refine j_nmW (P := fun M1 => M1 b0 = some (.inr (2, [.ref kb, .int mm, .int 0, .int 0, .int 0, .null, .null])) ∧ ∀ q, q ≠ b0 → M1 q = M q) ⟨mp_Us _ _ _, fun q hq => (mp_Un hq).trans (S1.2 q hq)⟩ (fun M2 S2 => ?_)
  refine j_aload_n F d_VE_init_14 rfl rfl ?_
  refine j_iload_n F d_VE_init_15 rfl rfl ?_
  refine j_put F S2.1 zb rfl in_VE ty_VE ok_VE nm_VE 2 (by decide) wf_VE_17 rfl (ty := .int) (by decide +kernel) rfl rfl (Nat.le_of_ble_eq_true rfl) d_VE_init_16 ?_
  refine j_nmW (P := fun M1 => M1 b0 = some (.inr (2, [.ref kb, .int mm, .int pp, .int 0, .int 0, .null, .null])) ∧ ∀ q, q ≠ b0 → M1 q = M q) ⟨mp_Us _ _ _, fun q hq => (mp_Un hq).trans (S2.2 q hq)⟩ (fun M3 S3 => ?_)
  refine j_aload_n F d_VE_init_19 rfl rfl ?_
  refine j_iload F d_VE_init_20 rfl ?_
  refine j_put F S3.1 zb rfl in_VE ty_VE ok_VE nm_VE 3 (by decide) wf_VE_20 rfl (ty := .int) (by decide +kernel) rfl rfl (Nat.le_of_ble_eq_true rfl) d_VE_init_22 ?_
  refine j_nmW (P := fun M1 => M1 b0 = some (.inr (2, [.ref kb, .int mm, .int pp, .int zz, .int 0, .null, .null])) ∧ ∀ q, q ≠ b0 → M1 q = M q) ⟨mp_Us _ _ _, fun q hq => (mp_Un hq).trans (S3.2 q hq)⟩ (fun M4 S4 => ?_)
  refine j_aload_n F d_VE_init_25 rfl rfl ?_
  refine j_iconst F (v := 1) d_VE_init_26 (by decide) ?_
  refine j_put F S4.1 zb rfl in_VE ty_VE ok_VE nm_VE 4 (by decide) wf_VE_23 rfl (ty := .int) (by decide +kernel) rfl rfl (Nat.le_of_ble_eq_true rfl) d_VE_init_27 ?_
  refine j_nmW (P := fun M1 => M1 b0 = some (.inr (2, [.ref kb, .int mm, .int pp, .int zz, .int 1, .null, .null])) ∧ ∀ q, q ≠ b0 → M1 q = M q) ⟨mp_Us _ _ _, fun q hq => (mp_Un hq).trans (S4.2 q hq)⟩ (fun M5 S5 => ?_)
  refine j_aload_n F d_VE_init_30 rfl rfl ?_
  refine j_null F d_VE_init_31 ?_
  refine j_put F S5.1 zb rfl in_VE ty_VE ok_VE nm_VE 5 (by decide) wf_VE_26 rfl (ty := .object "MomentTree$Version") (by decide +kernel) rfl rfl (Nat.le_of_ble_eq_true rfl) d_VE_init_32 ?_
  refine j_nmW (P := fun M1 => M1 b0 = some (.inr (2, [.ref kb, .int mm, .int pp, .int zz, .int 1, .null, .null])) ∧ ∀ q, q ≠ b0 → M1 q = M q) ⟨mp_Us _ _ _, fun q hq => (mp_Un hq).trans (S5.2 q hq)⟩ (fun M6 S6 => ?_)
  refine j_aload_n F d_VE_init_35 rfl rfl ?_
  refine j_null F d_VE_init_36 ?_
  refine j_put F S6.1 zb rfl in_VE ty_VE ok_VE nm_VE 6 (by decide) wf_VE_30 rfl (ty := .object "MomentTree$Version") (by decide +kernel) rfl rfl (Nat.le_of_ble_eq_true rfl) d_VE_init_37 ?_
  refine j_nmW (P := fun M1 => M1 b0 = some (.inr (2, [.ref kb, .int mm, .int pp, .int zz, .int 1, .null, .null])) ∧ ∀ q, q ≠ b0 → M1 q = M q) ⟨mp_Us _ _ _, fun q hq => (mp_Un hq).trans (S6.2 q hq)⟩ (fun M7 S7 => ?_)
  exact j_cret F hr (Nat.le_refl _) (Nat.le_refl _) ⟨rfl, S7.1, S7.2⟩ d_VE_init_40
set_option maxHeartbeats 4000000 in
set_option maxRecDepth 100000 in
theorem c_JA_copyOf (hl : l.stackTraces = false) {ta n : Nat} {tf : Nat → Int32} (hta : M ta = some (.inl (G.2.1.1, 60, .inl tf))) (hbt : by_Q tf) (hn : n ≤ 40) : ct_C l G y_JA_copyOf b_JA_copyOf 3 (some (.array .byte)) { frames := 1, cells := 1, slots := 40, locals := 60 } [.ref ta, .int (nI n)] M (fun v M1 => ∃ (kb : Nat) (kf : Nat → Int32), v = some (.ref kb) ∧ G.2.2.1 ≤ kb ∧ M kb = none ∧ M1 kb = some (.inl (G.2.1.1, n, .inl kf)) ∧ (∀ j, j < n → kf j = tf j) ∧ ∀ q, q ≠ kb → M1 q = M q) (fun _ _ => False) := by
  refine ct_of hl (by decide +kernel) (Nat.le_of_ble_eq_true rfl) ?_
  intro p e s m args below meth c F hr hnm
  have hcl : (nI n).toNatClampNeg = n := nI_clamp (by omega)
  refine j_iload_n F d_JA_copyOf_0 rfl rfl ?_
  refine j_aload_n F d_JA_copyOf_1 rfl rfl ?_
  refine j_blen F hta rfl d_JA_copyOf_2 ?_
  refine j_icmp_ne F (tgt := 14) d_JA_copyOf_3 (by decide) (fun hc => ?_) (fun hc => ?_)
  rotate_left
  · have := (nI_eq (b := 60) (by omega) (by decide)).mp hc
    omega
  refine j_iload_n F d_JA_copyOf_14 rfl rfl ?_
  refine j_newb F wa_byte (len := n) (nI_pos (by omega)) hcl (by show n * 1 ≤ _; omega) (by decide) (by dsimp only; omega) d_JA_copyOf_15 (fun kb zk nk => ?_)
  have htk : ta ≠ kb := fun z => by rw [z, nk] at hta; cases hta
  have hta1 := (mp_Un (e := .inl (G.2.1.1, n, .inl (fun _ => 0))) htk).trans hta
  refine j_astore_n F (lv1 := [(2, _), (0, _), (1, _)]) d_JA_copyOf_17 rfl (by decide) rfl ?_
  refine j_aload_n F d_JA_copyOf_18 rfl rfl ?_
  refine j_iconst F (v := 0) d_JA_copyOf_19 (by decide) ?_
  refine j_aload_n F d_JA_copyOf_20 rfl rfl ?_
  refine j_iconst F (v := 0) d_JA_copyOf_21 (by decide) ?_
  refine j_aload_n F d_JA_copyOf_22 rfl rfl ?_
  refine j_blen F hta1 rfl d_JA_copyOf_23 ?_
  refine j_iload_n F d_JA_copyOf_24 rfl rfl ?_
  refine j_min F wl_JA_304 wst_JM_min wi_JM wco_JM_min (by decide) (Nat.le_of_ble_eq_true rfl) (by decide) (by dsimp only; omega) d_JA_copyOf_25 ?_
  refine j_val (y := nI n) (by rw [show Int32.ofNat 60 = nI 60 from rfl, mn_nI (by decide) (by omega), Nat.min_eq_right (by omega)]) ?_
  refine j_copy F wl_JA_150 wna_JS_arraycopy wst_JS_arraycopy wi_JS hta1 (mp_Us _ _ _) zk (by decide) (by decide) (nI_pos (by omega)) (by rw [hcl, sb_cl0]; omega) (by rw [hcl, sb_cl0]; omega) (fun i hi => by_fit (hbt _)) (by decide) (Nat.le_of_ble_eq_true rfl) d_JA_copyOf_28 ?_
  refine j_aload_n F d_JA_copyOf_31 rfl rfl ?_
  exact j_aret F hr (Or.inr ⟨_, rfl⟩) (Or.inr ⟨_, rfl⟩) (by decide) (by dsimp only; omega) ⟨kb, _, rfl, zk, nk, mp_Us _ _ _, fun j hj => by rw [hcl, sb_cl0]; exact sb_cpy0 hj, fun q hq => (mp_Un hq).trans (mp_Un hq)⟩ d_JA_copyOf_32
set_option maxHeartbeats 4000000 in
set_option maxRecDepth 100000 in
theorem c_MT_takeTape (hl : l.stackTraces = false) {x ta tt : Nat} {cur : Option Nat} {tf : Nat → Int32} {k : ke_T} (hx : M x = some (xE ta (nI k.length) tt cur)) (zx : G.2.2.1 ≤ x) (hta : M ta = some (.inl (G.2.1.1, 60, .inl tf))) (hbt : by_Q tf) (hT : tp_R k tf) (hn : k.length ≤ 40) : ct_C l G y_MT_takeTape b_MT_takeTape 2 (some (.array .byte)) { frames := 2, cells := 1, slots := 40, locals := 90 } [.ref x] M (fun v M1 => ∃ (kb : Nat), v = some (.ref kb) ∧ G.2.2.1 ≤ kb ∧ M kb = none ∧ ky G M1 kb k ∧ M1 x = some (xE ta (nI 0) tt cur) ∧ ∀ q, q ≠ kb → q ≠ x → M1 q = M q) (fun _ _ => False) := by
  refine ct_of hl (by decide +kernel) (Nat.le_of_ble_eq_true rfl) ?_
  intro p e s m args below meth c F hr hnm
  refine j_aload_n F d_MT_takeTape_0 rfl rfl ?_
  refine j_get F hx rfl in_MT 0 (by decide) wf_MT_9 rfl d_MT_takeTape_1 ?_
  refine j_aload_n F d_MT_takeTape_4 rfl rfl ?_
  refine j_get F hx rfl in_MT 1 (by decide) wf_MT_13 rfl d_MT_takeTape_5 ?_
  refine j_callS F 2 (c_JA_copyOf hl hta hbt hn) wl_MT_102 wst_JA_copyOf wi_JA wco_JA_copyOf (by decide +kernel) (by decide) rfl rfl (Nat.le_of_ble_eq_true rfl) (by decide) (by decide) d_MT_takeTape_8 (fun E M1 hx => hx.elim) (fun r M1 hp => ?_)
  obtain ⟨kb, kf, rfl, zk, nk, hk1, hk2, hf⟩ := hp
  have hxk : x ≠ kb := fun z => by rw [z, nk] at hx; cases hx
  have hx1 := (hf x hxk).trans hx
  refine j_astore_n F (lv1 := [(1, _), (0, _)]) d_MT_takeTape_11 rfl (by decide) rfl ?_
  refine j_aload_n F d_MT_takeTape_12 rfl rfl ?_
  refine j_iconst F (v := 0) d_MT_takeTape_13 (by decide) ?_
  refine j_put F hx1 zx rfl in_MT ty_MT ok_MT nm_MT 1 (by decide) wf_MT_13 rfl (ty := .int) (by decide +kernel) rfl rfl (Nat.le_of_ble_eq_true rfl) d_MT_takeTape_14 ?_
  refine j_aload_n F d_MT_takeTape_17 rfl rfl ?_
  exact j_aret F hr (Or.inr ⟨_, rfl⟩) (Or.inr ⟨_, rfl⟩) (by decide) (by decide) ⟨kb, rfl, zk, nk, ⟨kf, (mp_Un (Ne.symm hxk)).trans hk1, fun j hj => (hk2 j hj).trans (hT j hj)⟩, mp_Us _ _ _, fun q h1 h2 => (mp_Un h2).trans (hf q h1)⟩ d_MT_takeTape_18
set_option maxHeartbeats 4000000 in
set_option maxRecDepth 100000 in
theorem c_MT_tapeIsKey (hl : l.stackTraces = false) {x ta tt n : Nat} {cur : Option Nat} (hx : M x = some (xE ta (nI n) tt cur)) (hn : n ≤ 60) : ct_C l G y_MT_tapeIsKey b_MT_tapeIsKey 1 (some .boolean) { frames := 0, cells := 0, slots := 0, locals := 0 } [.ref x] M (fun v M1 => M = M1 ∧ v = some (.int (if 1 ≤ n ∧ n ≤ 40 then 1 else 0))) (fun _ _ => False) := by
  refine ct_of hl (by decide +kernel) (Nat.le_of_ble_eq_true rfl) ?_
  intro p e s m args below meth c F hr hnm
  refine j_aload_n F d_MT_tapeIsKey_0 rfl rfl ?_
  refine j_get F hx rfl in_MT 1 (by decide) wf_MT_13 rfl d_MT_tapeIsKey_1 ?_
  refine j_iconst F (v := 1) d_MT_tapeIsKey_4 (by decide) ?_
  refine j_icmp_lt F (tgt := 21) d_MT_tapeIsKey_5 (by decide) (fun hc => ?_) (fun hc => ?_)
  · skip
    have h1 : n < 1 := (nI_ltI (b := 1) (by omega) (by decide)).mp hc
    refine j_iconst F (v := 0) d_MT_tapeIsKey_21 (by decide) ?_
    exact j_zret F hr rfl (Nat.le_refl _) (Nat.le_refl _) ⟨rfl, by rw [if_neg (by omega)]⟩ d_MT_tapeIsKey_22
  · skip
    have h1 : 1 ≤ n := Nat.not_lt.mp (fun z => hc ((nI_ltI (b := 1) (by omega) (by decide)).mpr z))
    refine j_aload_n F d_MT_tapeIsKey_8 rfl rfl ?_
    refine j_get F hx rfl in_MT 1 (by decide) wf_MT_13 rfl d_MT_tapeIsKey_9 ?_
    refine j_bipush F (v := 40) d_MT_tapeIsKey_12 (by decide) ?_
    refine j_icmp_gt F (tgt := 21) d_MT_tapeIsKey_14 (by decide) (fun hc2 => ?_) (fun hc2 => ?_)
    · skip
      have h2 : 40 < n := (nI_ltI (a := 40) (by decide) (by omega)).mp hc2
      refine j_iconst F (v := 0) d_MT_tapeIsKey_21 (by decide) ?_
      exact j_zret F hr rfl (Nat.le_refl _) (Nat.le_refl _) ⟨rfl, by rw [if_neg (by omega)]⟩ d_MT_tapeIsKey_22
    · skip
      have h2 : n ≤ 40 := Nat.not_lt.mp (fun z => hc2 ((nI_ltI (a := 40) (by decide) (by omega)).mpr z))
      refine j_iconst F (v := 1) d_MT_tapeIsKey_17 (by decide) ?_
      refine j_goto F (tgt := 22) d_MT_tapeIsKey_18 (by decide) ?_
      exact j_zret F hr rfl (Nat.le_refl _) (Nat.le_refl _) ⟨rfl, by rw [if_pos ⟨h1, h2⟩]⟩ d_MT_tapeIsKey_22
set_option maxHeartbeats 4000000 in
set_option maxRecDepth 100000 in
theorem c_MT_append (hl : l.stackTraces = false) {x ta tt : Nat} {cur : Option Nat} {tf : Nat → Int32} {k : ke_T} (hx : M x = some (xE ta (nI k.length) tt cur)) (zx : G.2.2.1 ≤ x) (zta : G.2.2.1 ≤ ta) (hta : M ta = some (.inl (G.2.1.1, 60, .inl tf))) (hbt : by_Q tf) (hT : tp_R k tf) (hn : k.length ≤ 56) (w : Int32) : ct_C l G y_MT_append b_MT_append 3 none { frames := 0, cells := 0, slots := 0, locals := 0 } [.ref x, .int w] M (fun v M1 => v = none ∧ ∃ tf1 : Nat → Int32, tw_P M M1 x ta (xE ta (nI (k.length + 4)) tt cur) (.inl (G.2.1.1, 60, .inl tf1)) ∧ tp_R (k ++ by4 w) tf1 ∧ by_Q tf1) (fun _ _ => False) := by
  refine ct_of hl (by decide +kernel) (Nat.le_of_ble_eq_true rfl) ?_
  intro p e s m args below meth c F hr hnm
  have hxt : x ≠ ta := fun z => by rw [z, hta] at hx; cases hx
  have S0 : tw_P M M x ta (xE ta (nI (k.length + 0)) tt cur) (.inl (G.2.1.1, 60, .inl tf)) := ⟨hx, hta, fun _ _ _ => rfl⟩
  have T0 : tp_R (k ++ []) tf := by rw [List.append_nil]; exact hT
  have Q0 := hbt
  have L0 : (k ++ ([] : ke_T)).length = k.length + 0 := by simp
  refine j_bipush F (v := 24) d_MT_append_0 (by decide) ?_
  refine j_istore_n F (lv1 := [(2, _), (0, _), (1, _)]) d_MT_append_2 rfl (by decide) rfl ?_
  refine j_iload_n F d_MT_append_3 rfl rfl ?_
  refine j_if_lt F (tgt := 45) d_MT_append_4 (by decide) (fun hc => absurd hc (by decide)) (fun hc => ?_)
  refine j_aload_n F d_MT_append_7 rfl rfl ?_
  refine j_get F S0.1 rfl in_MT 1 (by decide) wf_MT_13 rfl d_MT_append_8 ?_
  refine j_bipush F (v := 60) d_MT_append_11 (by decide) ?_
  refine j_icmp_ge F (tgt := 45) d_MT_append_13 (by decide) (fun hc => ?_) (fun hc => ?_)
  · have := (nI_leI (a := 60) (by decide) (by omega)).mp hc
    omega
  refine j_aload_n F d_MT_append_16 rfl rfl ?_
  refine j_get F S0.1 rfl in_MT 0 (by decide) wf_MT_9 rfl d_MT_append_17 ?_
  refine j_aload_n F d_MT_append_20 rfl rfl ?_
  refine j_get F S0.1 rfl in_MT 1 (by decide) wf_MT_13 rfl d_MT_append_21 ?_
  refine j_iload_n F d_MT_append_24 rfl rfl ?_
  refine j_iload_n F d_MT_append_25 rfl rfl ?_
  refine j_ishr F d_MT_append_26 ?_
  refine j_i2b F d_MT_append_27 rfl ?_
  refine j_bastN F S0.2.1 zta (by omega) (by decide) (b1_byte w 0) d_MT_append_28 ?_
  refine j_nmW (P := fun M1 => tw_P M M1 x ta (xE ta (nI (k.length + 0)) tt cur) (.inl (G.2.1.1, 60, .inl (upd tf (k.length + 0) (b1 w 0))))) (tw_b hxt S0) (fun M1 S1 => ?_)
  refine j_aload_n F d_MT_append_29 rfl rfl ?_
  refine j_dup F d_MT_append_30 rfl ?_
  refine j_get F S1.1 rfl in_MT 1 (by decide) wf_MT_13 rfl d_MT_append_31 ?_
  refine j_iconst F (v := 1) d_MT_append_34 (by decide) ?_
  refine j_iadd F d_MT_append_35 ?_
  refine j_val (y := nI (k.length + 1)) (nI_1 _) ?_
  refine j_put F S1.1 zx rfl in_MT ty_MT ok_MT nm_MT 1 (by decide) wf_MT_13 rfl (ty := .int) (by decide +kernel) rfl rfl (Nat.le_of_ble_eq_true rfl) d_MT_append_36 ?_
  refine j_nmW (P := fun M1 => tw_P M M1 x ta (xE ta (nI (k.length + 1)) tt cur) (.inl (G.2.1.1, 60, .inl (upd tf (k.length + 0) (b1 w 0))))) (tw_a hxt S1) (fun M2 S2 => ?_)
  have T1 : tp_R (k ++ [b1 w 0]) (upd tf (k.length + 0) (b1 w 0)) := by
    have h9 := tp_app (b1 w 0) T0
    rw [L0, List.append_assoc] at h9
    exact h9
  have Q1 : by_Q (upd tf (k.length + 0) (b1 w 0)) := by_upd Q0 (b1_byte w 0)
  have L1 : (k ++ [b1 w 0]).length = k.length + 1 := by simp
  refine j_iinc F (v := 16) (lv1 := [(2, _), (0, _), (1, _)]) d_MT_append_39 rfl (by decide) (by decide) rfl ?_
  refine j_goto F (tgt := 3) d_MT_append_42 (by decide) ?_
  refine j_iload_n F d_MT_append_3 rfl rfl ?_
  refine j_if_lt F (tgt := 45) d_MT_append_4 (by decide) (fun hc => absurd hc (by decide)) (fun hc => ?_)
  refine j_aload_n F d_MT_append_7 rfl rfl ?_
  refine j_get F S2.1 rfl in_MT 1 (by decide) wf_MT_13 rfl d_MT_append_8 ?_
  refine j_bipush F (v := 60) d_MT_append_11 (by decide) ?_
  refine j_icmp_ge F (tgt := 45) d_MT_append_13 (by decide) (fun hc => ?_) (fun hc => ?_)
  · have := (nI_leI (a := 60) (by decide) (by omega)).mp hc
    omega
  refine j_aload_n F d_MT_append_16 rfl rfl ?_
  refine j_get F S2.1 rfl in_MT 0 (by decide) wf_MT_9 rfl d_MT_append_17 ?_
  refine j_aload_n F d_MT_append_20 rfl rfl ?_
  refine j_get F S2.1 rfl in_MT 1 (by decide) wf_MT_13 rfl d_MT_append_21 ?_
  refine j_iload_n F d_MT_append_24 rfl rfl ?_
  refine j_iload_n F d_MT_append_25 rfl rfl ?_
  refine j_ishr F d_MT_append_26 ?_
  refine j_i2b F d_MT_append_27 rfl ?_
  refine j_bastN F S2.2.1 zta (by omega) (by decide) (b1_byte w 1) d_MT_append_28 ?_
  refine j_nmW (P := fun M1 => tw_P M M1 x ta (xE ta (nI (k.length + 1)) tt cur) (.inl (G.2.1.1, 60, .inl (upd (upd tf (k.length + 0) (b1 w 0)) (k.length + 1) (b1 w 1))))) (tw_b hxt S2) (fun M3 S3 => ?_)
  refine j_aload_n F d_MT_append_29 rfl rfl ?_
  refine j_dup F d_MT_append_30 rfl ?_
  refine j_get F S3.1 rfl in_MT 1 (by decide) wf_MT_13 rfl d_MT_append_31 ?_
  refine j_iconst F (v := 1) d_MT_append_34 (by decide) ?_
  refine j_iadd F d_MT_append_35 ?_
  refine j_val (y := nI (k.length + 2)) (nI_1 _) ?_
  refine j_put F S3.1 zx rfl in_MT ty_MT ok_MT nm_MT 1 (by decide) wf_MT_13 rfl (ty := .int) (by decide +kernel) rfl rfl (Nat.le_of_ble_eq_true rfl) d_MT_append_36 ?_
  refine j_nmW (P := fun M1 => tw_P M M1 x ta (xE ta (nI (k.length + 2)) tt cur) (.inl (G.2.1.1, 60, .inl (upd (upd tf (k.length + 0) (b1 w 0)) (k.length + 1) (b1 w 1))))) (tw_a hxt S3) (fun M4 S4 => ?_)
  have T2 : tp_R (k ++ [b1 w 0, b1 w 1]) (upd (upd tf (k.length + 0) (b1 w 0)) (k.length + 1) (b1 w 1)) := by
    have h9 := tp_app (b1 w 1) T1
    rw [L1, List.append_assoc] at h9
    exact h9
  have Q2 : by_Q (upd (upd tf (k.length + 0) (b1 w 0)) (k.length + 1) (b1 w 1)) := by_upd Q1 (b1_byte w 1)
  have L2 : (k ++ [b1 w 0, b1 w 1]).length = k.length + 2 := by simp
  refine j_iinc F (v := 8) (lv1 := [(2, _), (0, _), (1, _)]) d_MT_append_39 rfl (by decide) (by decide) rfl ?_
  refine j_goto F (tgt := 3) d_MT_append_42 (by decide) ?_
  refine j_iload_n F d_MT_append_3 rfl rfl ?_
  refine j_if_lt F (tgt := 45) d_MT_append_4 (by decide) (fun hc => absurd hc (by decide)) (fun hc => ?_)
  refine j_aload_n F d_MT_append_7 rfl rfl ?_
  refine j_get F S4.1 rfl in_MT 1 (by decide) wf_MT_13 rfl d_MT_append_8 ?_
  refine j_bipush F (v := 60) d_MT_append_11 (by decide) ?_
  refine j_icmp_ge F (tgt := 45) d_MT_append_13 (by decide) (fun hc => ?_) (fun hc => ?_)
  · have := (nI_leI (a := 60) (by decide) (by omega)).mp hc
    omega
  refine j_aload_n F d_MT_append_16 rfl rfl ?_
  refine j_get F S4.1 rfl in_MT 0 (by decide) wf_MT_9 rfl d_MT_append_17 ?_
  refine j_aload_n F d_MT_append_20 rfl rfl ?_
  refine j_get F S4.1 rfl in_MT 1 (by decide) wf_MT_13 rfl d_MT_append_21 ?_
  refine j_iload_n F d_MT_append_24 rfl rfl ?_
  refine j_iload_n F d_MT_append_25 rfl rfl ?_
  refine j_ishr F d_MT_append_26 ?_
  refine j_i2b F d_MT_append_27 rfl ?_
  refine j_bastN F S4.2.1 zta (by omega) (by decide) (b1_byte w 2) d_MT_append_28 ?_
  refine j_nmW (P := fun M1 => tw_P M M1 x ta (xE ta (nI (k.length + 2)) tt cur) (.inl (G.2.1.1, 60, .inl (upd (upd (upd tf (k.length + 0) (b1 w 0)) (k.length + 1) (b1 w 1)) (k.length + 2) (b1 w 2))))) (tw_b hxt S4) (fun M5 S5 => ?_)
  refine j_aload_n F d_MT_append_29 rfl rfl ?_
  refine j_dup F d_MT_append_30 rfl ?_
  refine j_get F S5.1 rfl in_MT 1 (by decide) wf_MT_13 rfl d_MT_append_31 ?_
  refine j_iconst F (v := 1) d_MT_append_34 (by decide) ?_
  refine j_iadd F d_MT_append_35 ?_
  refine j_val (y := nI (k.length + 3)) (nI_1 _) ?_
  refine j_put F S5.1 zx rfl in_MT ty_MT ok_MT nm_MT 1 (by decide) wf_MT_13 rfl (ty := .int) (by decide +kernel) rfl rfl (Nat.le_of_ble_eq_true rfl) d_MT_append_36 ?_
  refine j_nmW (P := fun M1 => tw_P M M1 x ta (xE ta (nI (k.length + 3)) tt cur) (.inl (G.2.1.1, 60, .inl (upd (upd (upd tf (k.length + 0) (b1 w 0)) (k.length + 1) (b1 w 1)) (k.length + 2) (b1 w 2))))) (tw_a hxt S5) (fun M6 S6 => ?_)
  have T3 : tp_R (k ++ [b1 w 0, b1 w 1, b1 w 2]) (upd (upd (upd tf (k.length + 0) (b1 w 0)) (k.length + 1) (b1 w 1)) (k.length + 2) (b1 w 2)) := by
    have h9 := tp_app (b1 w 2) T2
    rw [L2, List.append_assoc] at h9
    exact h9
  have Q3 : by_Q (upd (upd (upd tf (k.length + 0) (b1 w 0)) (k.length + 1) (b1 w 1)) (k.length + 2) (b1 w 2)) := by_upd Q2 (b1_byte w 2)
  have L3 : (k ++ [b1 w 0, b1 w 1, b1 w 2]).length = k.length + 3 := by simp
  refine j_iinc F (v := 0) (lv1 := [(2, _), (0, _), (1, _)]) d_MT_append_39 rfl (by decide) (by decide) rfl ?_
  refine j_goto F (tgt := 3) d_MT_append_42 (by decide) ?_
  refine j_iload_n F d_MT_append_3 rfl rfl ?_
  refine j_if_lt F (tgt := 45) d_MT_append_4 (by decide) (fun hc => absurd hc (by decide)) (fun hc => ?_)
  refine j_aload_n F d_MT_append_7 rfl rfl ?_
  refine j_get F S6.1 rfl in_MT 1 (by decide) wf_MT_13 rfl d_MT_append_8 ?_
  refine j_bipush F (v := 60) d_MT_append_11 (by decide) ?_
  refine j_icmp_ge F (tgt := 45) d_MT_append_13 (by decide) (fun hc => ?_) (fun hc => ?_)
  · have := (nI_leI (a := 60) (by decide) (by omega)).mp hc
    omega
  refine j_aload_n F d_MT_append_16 rfl rfl ?_
  refine j_get F S6.1 rfl in_MT 0 (by decide) wf_MT_9 rfl d_MT_append_17 ?_
  refine j_aload_n F d_MT_append_20 rfl rfl ?_
  refine j_get F S6.1 rfl in_MT 1 (by decide) wf_MT_13 rfl d_MT_append_21 ?_
  refine j_iload_n F d_MT_append_24 rfl rfl ?_
  refine j_iload_n F d_MT_append_25 rfl rfl ?_
  refine j_ishr F d_MT_append_26 ?_
  refine j_i2b F d_MT_append_27 rfl ?_
  refine j_bastN F S6.2.1 zta (by omega) (by decide) (b1_byte w 3) d_MT_append_28 ?_
  refine j_nmW (P := fun M1 => tw_P M M1 x ta (xE ta (nI (k.length + 3)) tt cur) (.inl (G.2.1.1, 60, .inl (upd (upd (upd (upd tf (k.length + 0) (b1 w 0)) (k.length + 1) (b1 w 1)) (k.length + 2) (b1 w 2)) (k.length + 3) (b1 w 3))))) (tw_b hxt S6) (fun M7 S7 => ?_)
  refine j_aload_n F d_MT_append_29 rfl rfl ?_
  refine j_dup F d_MT_append_30 rfl ?_
  refine j_get F S7.1 rfl in_MT 1 (by decide) wf_MT_13 rfl d_MT_append_31 ?_
  refine j_iconst F (v := 1) d_MT_append_34 (by decide) ?_
  refine j_iadd F d_MT_append_35 ?_
  refine j_val (y := nI (k.length + 4)) (nI_1 _) ?_
  refine j_put F S7.1 zx rfl in_MT ty_MT ok_MT nm_MT 1 (by decide) wf_MT_13 rfl (ty := .int) (by decide +kernel) rfl rfl (Nat.le_of_ble_eq_true rfl) d_MT_append_36 ?_
  refine j_nmW (P := fun M1 => tw_P M M1 x ta (xE ta (nI (k.length + 4)) tt cur) (.inl (G.2.1.1, 60, .inl (upd (upd (upd (upd tf (k.length + 0) (b1 w 0)) (k.length + 1) (b1 w 1)) (k.length + 2) (b1 w 2)) (k.length + 3) (b1 w 3))))) (tw_a hxt S7) (fun M8 S8 => ?_)
  have T4 : tp_R (k ++ [b1 w 0, b1 w 1, b1 w 2, b1 w 3]) (upd (upd (upd (upd tf (k.length + 0) (b1 w 0)) (k.length + 1) (b1 w 1)) (k.length + 2) (b1 w 2)) (k.length + 3) (b1 w 3)) := by
    have h9 := tp_app (b1 w 3) T3
    rw [L3, List.append_assoc] at h9
    exact h9
  have Q4 : by_Q (upd (upd (upd (upd tf (k.length + 0) (b1 w 0)) (k.length + 1) (b1 w 1)) (k.length + 2) (b1 w 2)) (k.length + 3) (b1 w 3)) := by_upd Q3 (b1_byte w 3)
  have L4 : (k ++ [b1 w 0, b1 w 1, b1 w 2, b1 w 3]).length = k.length + 4 := by simp
  refine j_iinc F (v := -8) (lv1 := [(2, _), (0, _), (1, _)]) d_MT_append_39 rfl (by decide) (by decide) rfl ?_
  refine j_goto F (tgt := 3) d_MT_append_42 (by decide) ?_
  refine j_iload_n F d_MT_append_3 rfl rfl ?_
  refine j_if_lt F (tgt := 45) d_MT_append_4 (by decide) (fun hc => ?_) (fun hc => absurd (by decide) hc)
  exact j_vret F hr (Nat.le_refl _) (Nat.le_refl _) ⟨rfl, _, S8, T4, Q4⟩ d_MT_append_45
theorem w3_IA : ∀ w ∈ (vx_at0 "MomentTree" 37 "java/lang/IllegalArgumentException" ["java/lang/RuntimeException", "java/lang/Exception"]).filter goodWord, w ∈ tb_ws := by decide +kernel
theorem w4_IA : ∀ w ∈ (vx_at0 "MomentTree" 37 "java/lang/IllegalArgumentException" ["java/lang/RuntimeException", "java/lang/Exception"]).filter (fun w => !goodWord w), w ∈ Cond.castable "java/lang/IllegalArgumentException" "java/lang/IllegalArgumentException" :: dc_M.map Cond.declares := by decide +kernel
theorem wg_IA_35 : ∀ w ∈ Cond.classLink "MomentTree" 35 "java/lang/IllegalArgumentException" :: Cond.initialized "java/lang/IllegalArgumentException" :: vx_at0 "MomentTree" 37 "java/lang/IllegalArgumentException" ["java/lang/RuntimeException", "java/lang/Exception"], vx_ot w = true := by decide +kernel
theorem w3_IS : ∀ w ∈ (vx_at0 "MomentTree" 67 "java/lang/IllegalStateException" ["java/lang/RuntimeException", "java/lang/Exception"]).filter goodWord, w ∈ tb_ws := by decide +kernel
theorem w4_IS : ∀ w ∈ (vx_at0 "MomentTree" 67 "java/lang/IllegalStateException" ["java/lang/RuntimeException", "java/lang/Exception"]).filter (fun w => !goodWord w), w ∈ Cond.castable "java/lang/IllegalStateException" "java/lang/IllegalStateException" :: dc_M.map Cond.declares := by decide +kernel
theorem wg_IS_65 : ∀ w ∈ Cond.classLink "MomentTree" 65 "java/lang/IllegalStateException" :: Cond.initialized "java/lang/IllegalStateException" :: vx_at0 "MomentTree" 67 "java/lang/IllegalStateException" ["java/lang/RuntimeException", "java/lang/Exception"], vx_ot w = true := by decide +kernel
theorem w3_IO : ∀ w ∈ (vx_at0 "MomentTree" 30 "java/lang/IndexOutOfBoundsException" ["java/lang/RuntimeException", "java/lang/Exception"]).filter goodWord, w ∈ tb_ws := by decide +kernel
theorem w4_IO : ∀ w ∈ (vx_at0 "MomentTree" 30 "java/lang/IndexOutOfBoundsException" ["java/lang/RuntimeException", "java/lang/Exception"]).filter (fun w => !goodWord w), w ∈ Cond.castable "java/lang/IndexOutOfBoundsException" "java/lang/IndexOutOfBoundsException" :: dc_M.map Cond.declares := by decide +kernel
theorem wg_IO_28 : ∀ w ∈ Cond.classLink "MomentTree" 28 "java/lang/IndexOutOfBoundsException" :: Cond.initialized "java/lang/IndexOutOfBoundsException" :: vx_at0 "MomentTree" 30 "java/lang/IndexOutOfBoundsException" ["java/lang/RuntimeException", "java/lang/Exception"], vx_ot w = true := by decide +kernel
theorem w3_NS : ∀ w ∈ (vx_at0 "MomentTree" 94 "java/util/NoSuchElementException" ["java/lang/RuntimeException", "java/lang/Exception"]).filter goodWord, w ∈ tb_ws := by decide +kernel
theorem w4_NS : ∀ w ∈ (vx_at0 "MomentTree" 94 "java/util/NoSuchElementException" ["java/lang/RuntimeException", "java/lang/Exception"]).filter (fun w => !goodWord w), w ∈ Cond.castable "java/util/NoSuchElementException" "java/util/NoSuchElementException" :: dc_M.map Cond.declares := by decide +kernel
theorem wg_NS_92 : ∀ w ∈ Cond.classLink "MomentTree" 92 "java/util/NoSuchElementException" :: Cond.initialized "java/util/NoSuchElementException" :: vx_at0 "MomentTree" 94 "java/util/NoSuchElementException" ["java/lang/RuntimeException", "java/lang/Exception"], vx_ot w = true := by decide +kernel
set_option maxHeartbeats 4000000 in
set_option maxRecDepth 100000 in
theorem c_MT_goTo1 (hl : l.stackTraces = false) {x ta tt a ka : Nat} {n : Int32} {cur : Option Nat} {e0 : en_T} {ht : Int32} {lc rc : Option Nat} (hx : M x = some (xE ta n tt cur)) (zx : G.2.2.1 ≤ x) (hv : M a = some (vE ka e0 ht lc rc)) : ct_C l G y_MT_goTo b_MT_goTo 2 (some .int) { frames := 6, cells := 1, slots := 6, locals := 100 } [.ref x, .ref a] M (fun v M1 => v = some (.int e0.2.2.1) ∧ M1 x = some (xE ta n tt (some a)) ∧ ∀ q, q ≠ x → M1 q = M q) (fun _ _ => False) := by
  refine ct_of hl (by decide +kernel) (Nat.le_of_ble_eq_true rfl) ?_
  intro p e s m args below meth c F hr hnm
  have hax : a ≠ x := fun z => by rw [z, hx] at hv; cases hv
  refine j_aload_n F d_MT_goTo_0 rfl rfl ?_
  refine j_aload_n F d_MT_goTo_1 rfl rfl ?_
  refine j_put F hx zx rfl in_MT ty_MT ok_MT nm_MT 3 (by decide) wf_MT_24 rfl (ty := .object "MomentTree$Version") (by decide +kernel) rfl rfl (Nat.le_of_ble_eq_true rfl) d_MT_goTo_2 ?_
  refine j_nmW (P := fun M1 => M1 x = some (xE ta n tt (some a)) ∧ ∀ q, q ≠ x → M1 q = M q) ⟨mp_Us _ _ _, fun q hq => mp_Un hq⟩ (fun M1 S1 => ?_)
  have hv1 := (S1.2 a hax).trans hv
  refine j_aload_n F d_MT_goTo_5 rfl rfl ?_
  refine j_ifnonnull F (r := some a) (tgt := 17) d_MT_goTo_6 (by decide) (fun z hz => ?_) (fun hz => by cases hz)
  refine j_aload_n F d_MT_goTo_17 rfl rfl ?_
  refine j_get F hv1 rfl in_VE 2 (by decide) wf_MT_56 rfl d_MT_goTo_18 ?_
  exact j_iret F hr (by decide) (by decide) ⟨rfl, S1.1, S1.2⟩ d_MT_goTo_21
set_option maxHeartbeats 4000000 in
set_option maxRecDepth 100000 in
theorem c_MT_goTo0 (hl : l.stackTraces = false) {x ta tt : Nat} {n : Int32} {cur : Option Nat} (hx : M x = some (xE ta n tt cur)) (zx : G.2.2.1 ≤ x) : ct_C l G y_MT_goTo b_MT_goTo 2 (some .int) { frames := 6, cells := 1, slots := 6, locals := 100 } [.ref x, .null] M (fun _ _ => False) (fun E M1 => E = xn_NS ∧ M1 x = some (xE ta n tt none) ∧ ∀ q, q ≠ x → M1 q = M q) := by
  refine ct_of hl (by decide +kernel) (Nat.le_of_ble_eq_true rfl) ?_
  intro p e s m args below meth c F hr hnm
  refine j_aload_n F d_MT_goTo_0 rfl rfl ?_
  refine j_aload_nq F (r := none) d_MT_goTo_1 rfl rfl ?_
  refine j_put F hx zx rfl in_MT ty_MT ok_MT nm_MT 3 (by decide) wf_MT_24 rfl (ty := .object "MomentTree$Version") (by decide +kernel) rfl rfl (Nat.le_of_ble_eq_true rfl) d_MT_goTo_2 ?_
  refine j_nmW (P := fun M1 => M1 x = some (xE ta n tt none) ∧ ∀ q, q ≠ x → M1 q = M q) ⟨mp_Us _ _ _, fun q hq => mp_Un hq⟩ (fun M1 S1 => ?_)
  refine j_aload_nq F (r := none) d_MT_goTo_5 rfl rfl ?_
  refine j_ifnonnull F (r := none) (tgt := 17) d_MT_goTo_6 (by decide) (fun z hz => by cases hz) (fun hz => ?_)
  exact j_throw F (names := ["java/lang/RuntimeException", "java/lang/Exception"]) (by decide +kernel) (by decide +kernel) wc_MT_92 wi_NS w3_NS w4_NS (jf_sx F).2.2.2.2.2.2.2.2.2.2.1 wg_NS_92 rfl (by decide) (Nat.le_of_ble_eq_true rfl) (by decide) (by decide) (⟨rfl, S1.1, S1.2⟩) d_MT_goTo_9 d_MT_goTo_12 d_MT_goTo_13 d_MT_goTo_16
end MT1
end
section
theorem wb_tb (n : Nat) : (lN n).toBitVec = BitVec.ofNat 64 n := rfl
theorem wb_inj {a b : Int64} (h : a.toBitVec = b.toBitVec) : a = b := Int64.toBitVec_inj.mp h
theorem wb_tn {n : Nat} (h : n < 2 ^ 64) : (lN n).toBitVec.toNat = n := by rw [wb_tb, BitVec.toNat_ofNat, Nat.mod_eq_of_lt h]
theorem wb_of (x : Int64) : ∃ n, n < 2 ^ 64 ∧ x = lN n := ⟨x.toBitVec.toNat, x.toBitVec.isLt, wb_inj (by rw [wb_tb]; simp)⟩
theorem wb_of32 (x : Int32) : ∃ n, n < 2 ^ 32 ∧ x = nI n := ⟨x.toBitVec.toNat, x.toBitVec.isLt, Int32.toBitVec_inj.mp (by show _ = BitVec.ofNat 32 _; simp)⟩
theorem wb_c : ∀ k, k < 64 → ((nI k).toInt64 &&& 63) = lN k := by decide +kernel
theorem wb_cu : ∀ k, k < 64 → ((nI k).toInt64.toUInt64 &&& Int64.toUInt64 63) = UInt64.ofNat k := by decide +kernel
theorem wb_sm : ∀ k, k < 64 → (BitVec.ofNat 64 k).smod 64 = BitVec.ofNat 64 k := by decide +kernel
theorem wb_pw {a b : Nat} (h : a ≤ b) : 2 ^ b = 2 ^ a * 2 ^ (b - a) := by rw [← Nat.pow_add]; congr 1; omega
theorem wb_lt2 {a b : Nat} (h : a < b) : 2 ^ a < 2 ^ b := Nat.pow_lt_pow_right (by decide) h
theorem wb_mod (n : Nat) : lN n = lN (n % 2 ^ 64) := wb_inj (by rw [wb_tb, wb_tb]; apply BitVec.eq_of_toNat_eq; rw [BitVec.toNat_ofNat, BitVec.toNat_ofNat, Nat.mod_mod])
theorem wb_shr {n k : Nat} (hn : n < 2 ^ 64) (hk : k < 64) : ((lN n).toUInt64 >>> ((nI k).toInt64.toUInt64 &&& Int64.toUInt64 63)).toInt64 = lN (n / 2 ^ k) := by
  rw [wb_cu k hk]
  apply wb_inj
  apply BitVec.eq_of_toNat_eq
  show ((lN n).toUInt64 >>> UInt64.ofNat k).toNat = (BitVec.ofNat 64 _).toNat
  have h1 : (UInt64.ofNat k).toNat = k := by
    show (BitVec.ofNat 64 k).toNat = k
    rw [BitVec.toNat_ofNat, Nat.mod_eq_of_lt (by omega)]
  have h2 : (lN n).toUInt64.toNat = n := wb_tn hn
  rw [UInt64.toNat_shiftRight, h1, h2, Nat.mod_eq_of_lt hk, Nat.shiftRight_eq_div_pow, BitVec.toNat_ofNat, Nat.mod_eq_of_lt (Nat.lt_of_le_of_lt (Nat.div_le_self _ _) hn)]
theorem wb_shl (n : Nat) {k : Nat} (hk : k < 64) : lN n <<< ((nI k).toInt64 &&& 63) = lN (n * 2 ^ k) := by
  rw [wb_c k hk]
  apply wb_inj
  rw [Int64.toBitVec_shiftLeft, wb_tb, wb_tb, wb_tb, wb_sm k hk]
  apply BitVec.eq_of_toNat_eq
  rw [BitVec.shiftLeft_eq', BitVec.toNat_shiftLeft, BitVec.toNat_ofNat, BitVec.toNat_ofNat, BitVec.toNat_ofNat, Nat.mod_eq_of_lt (show k < 2 ^ 64 by omega), Nat.shiftLeft_eq, Nat.mul_mod, Nat.mod_mod, ← Nat.mul_mod]
theorem wb_and {a b : Nat} (ha : a < 2 ^ 64) (hb : b < 2 ^ 64) : lN a &&& lN b = lN (a &&& b) := by
  apply wb_inj
  rw [Int64.toBitVec_and, wb_tb, wb_tb, wb_tb]
  apply BitVec.eq_of_toNat_eq
  rw [BitVec.toNat_and, BitVec.toNat_ofNat, BitVec.toNat_ofNat, BitVec.toNat_ofNat, Nat.mod_eq_of_lt ha, Nat.mod_eq_of_lt hb, Nat.mod_eq_of_lt (Nat.and_lt_two_pow _ hb)]
theorem wb_or {a b : Nat} (ha : a < 2 ^ 64) (hb : b < 2 ^ 64) : lN a ||| lN b = lN (a ||| b) := by
  apply wb_inj
  rw [Int64.toBitVec_or, wb_tb, wb_tb, wb_tb]
  apply BitVec.eq_of_toNat_eq
  rw [BitVec.toNat_or, BitVec.toNat_ofNat, BitVec.toNat_ofNat, BitVec.toNat_ofNat, Nat.mod_eq_of_lt ha, Nat.mod_eq_of_lt hb, Nat.mod_eq_of_lt (Nat.or_lt_two_pow ha hb)]
theorem wo_or (w : Int64) {b : Nat} (hb : b < 256) : w <<< ((8 : Int32).toInt64 &&& 63) ||| (nI b).toInt64 = w * 256 + (nI b).toInt64 := by
  obtain ⟨n, hn, rfl⟩ := wb_of w
  rw [nI_l (by omega), show (8 : Int32) = nI 8 from rfl, wb_shl n (k := 8) (by decide), show (256 : Int64) = lN 256 from rfl, lN_mul, lN_add, show 2 ^ 8 = 256 from rfl, wb_mod (n * 256), wb_or (Nat.mod_lt _ (by decide)) (by omega), wb_mod (n * 256 + b)]
  have h1 : n * 256 % 2 ^ 64 = 2 ^ 8 * (n % 2 ^ 56) := by
    rw [show (2 : Nat) ^ 64 = 256 * 2 ^ 56 from by decide, Nat.mul_comm n 256, Nat.mul_mod_mul_left]
  have h2 : (n * 256 + b) % 2 ^ 64 = 2 ^ 8 * (n % 2 ^ 56) + b := by
    rw [Nat.add_mod, h1, Nat.mod_eq_of_lt (show b < 2 ^ 64 by omega)]
    have h3 : n % 2 ^ 56 < 2 ^ 56 := Nat.mod_lt _ (by decide)
    have h4 : (2 : Nat) ^ 8 = 256 := by decide
    have h5 : (2 : Nat) ^ 56 = 72057594037927936 := by decide
    have h6 : (2 : Nat) ^ 64 = 18446744073709551616 := by decide
    rw [Nat.mod_eq_of_lt (by omega)]
  rw [h1, h2, Nat.two_pow_add_eq_or_of_lt (by omega)]
/-- what cl_A says, its cells by name -/
def cl_C (G : gv_T) (M : mp_T) (B : Nat → Prop) (x : Nat) (σ : sg_T) (ta tt : Nat) (root : Option Nat) (L : List no_T) (tf : Nat → Int32) (h : Nat) : Prop :=
  M x = some (xE ta (nI σ.1.length) tt (σ.2.2.bind (fun c => (L[c]?).map (fun y => y.1)))) ∧ M ta = some (.inl (G.2.1.1, 60, .inl tf)) ∧ M tt = some (.inr (1, [va_rf root, .int (nI σ.2.1.length)])) ∧
  tr G M h root L h ∧ L.map (fun y => y.2.2) = σ.2.1 ∧ srt σ.2.1 ∧ (L.map (fun y => y.1)).Nodup ∧ (∀ y ∈ L, y.2.1 ≠ ta ∧ G.2.2.1 ≤ y.1 ∧ ¬ B y.1 ∧ ¬ B y.2.1) ∧ (G.2.2.1 ≤ x ∧ G.2.2.1 ≤ ta ∧ G.2.2.1 ≤ tt) ∧ (¬ B x ∧ ¬ B ta ∧ ¬ B tt) ∧ tp_R σ.1 tf ∧ by_Q tf ∧ sg_ok σ
theorem cl_open {G : gv_T} {M : mp_T} {B : Nat → Prop} {x : Nat} {σ : sg_T} (A : cl_A G M B x σ) : ∃ (ta tt : Nat) (root : Option Nat) (L : List no_T) (tf : Nat → Int32) (h : Nat), cl_C G M B x σ ta tt root L tf h := A
theorem cl_shut {G : gv_T} {M : mp_T} {B : Nat → Prop} {x : Nat} {σ : sg_T} {ta tt : Nat} {root : Option Nat} {L : List no_T} {tf : Nat → Int32} {h : Nat} (C : cl_C G M B x σ ta tt root L tf h) : cl_A G M B x σ := ⟨ta, tt, root, L, tf, h, C⟩
/-- x's cell and the tape are written, the versions stay -/
theorem cl_re {G : gv_T} {M M1 : mp_T} {B : Nat → Prop} {x : Nat} {σ σ1 : sg_T} {ta tt : Nat} {root : Option Nat} {L : List no_T} {tf tf1 : Nat → Int32} {h : Nat} (C : cl_C G M B x σ ta tt root L tf h)
    (hx1 : M1 x = some (xE ta (nI σ1.1.length) tt (σ1.2.2.bind (fun c => (L[c]?).map (fun y => y.1))))) (hta1 : M1 ta = some (.inl (G.2.1.1, 60, .inl tf1))) (hf : ∀ q w, q ≠ x → q ≠ ta → M q = some w → M1 q = some w) (he : σ1.2.1 = σ.2.1) (hT1 : tp_R σ1.1 tf1) (hb1 : by_Q tf1) (ok1 : sg_ok σ1) : cl_A G M1 B x σ1 := by
  obtain ⟨hx, hta, htt, ht, hmap, hsr, nd, hL, hz, hB, hT, hbt, hok⟩ := C
  have hk := tr_no _ ht
  refine ⟨ta, tt, root, L, tf1, h, hx1, hta1, ?_, ?_, ?_, ?_, nd, hL, hz, hB, hT1, hb1, ok1⟩
  · rw [he]
    exact hf tt _ (fun z => by rw [z, hx] at htt; cases htt) (fun z => by rw [z, hta] at htt; cases htt) htt
  · refine tr_mono _ ht (fun y hy => ⟨fun e hq => ?_, fun e hq => ?_⟩)
    · obtain ⟨⟨w1, w2, w3, w4⟩, -⟩ := hk y hy
      exact hf _ _ (fun z => by rw [z, hx] at w4; cases w4) (fun z => by rw [z, hta] at w4; cases w4) hq
    · obtain ⟨-, kf, w4, -⟩ := hk y hy
      exact hf _ _ (fun z => by rw [z, hx] at w4; cases w4) (hL y hy).1 hq
  · rw [he]; exact hmap
  · rw [he]; exact hsr
theorem cl_len {G : gv_T} {M : mp_T} {B : Nat → Prop} {x : Nat} {σ : sg_T} {ta tt : Nat} {root : Option Nat} {L : List no_T} {tf : Nat → Int32} {h : Nat} (C : cl_C G M B x σ ta tt root L tf h) : L.length = σ.2.1.length := by
  rw [← C.2.2.2.2.1, List.length_map]
/-- the current one -/
theorem cl_cur {G : gv_T} {M : mp_T} {B : Nat → Prop} {x : Nat} {σ : sg_T} {ta tt : Nat} {root : Option Nat} {L : List no_T} {tf : Nat → Int32} {h : Nat} (C : cl_C G M B x σ ta tt root L tf h) : (σ.2.2 = none ∧ σ.2.2.bind (fun c => (L[c]?).map (fun y => y.1)) = none ∧ cu_E σ = none) ∨ ∃ (c : Nat) (y : no_T), σ.2.2 = some c ∧ L[c]? = some y ∧ y ∈ L ∧ σ.2.2.bind (fun c => (L[c]?).map (fun y => y.1)) = some y.1 ∧ cu_E σ = some y.2.2 := by
  have hlen := cl_len C
  obtain ⟨hx, hta, htt, ht, hmap, hsr, nd, hL, hz, hB, hT, hbt, hok⟩ := C
  cases hc : σ.2.2 with
  | none => exact Or.inl ⟨rfl, rfl, cu_none hc⟩
  | some c =>
    have hcl := hok.2.2.2.2 c hc
    have hy := List.getElem?_eq_getElem (l := L) (i := c) (by omega)
    refine Or.inr ⟨c, _, rfl, hy, List.mem_of_getElem? hy, by rw [Option.bind_some, hy]; rfl, ?_⟩
    rw [cu_some hc, ← hmap, List.getElem?_map, hy]
    rfl
theorem ky40 {G : gv_T} {M : mp_T} {B : Nat → Prop} {x : Nat} {σ : sg_T} {ta tt : Nat} {root : Option Nat} {L : List no_T} {tf : Nat → Int32} {h : Nat} (C : cl_C G M B x σ ta tt root L tf h) : ∀ y ∈ L, 1 ≤ y.2.2.1.length ∧ y.2.2.1.length ≤ 40 := by
  obtain ⟨-, -, -, -, hmap, -, -, -, -, -, -, -, hok⟩ := C
  intro y hy
  exact hok.2.2.2.1 y.2.2 (by rw [← hmap]; exact List.mem_map.mpr ⟨y, hy, rfl⟩)
section MT2
variable {l : Launch} {G : gv_T}
set_option maxHeartbeats 8000000 in
set_option maxRecDepth 100000 in
theorem k_init (hl : l.stackTraces = false) : K_init l G := by
  intro M x hx zx
  refine cn_of hl (by decide +kernel) (Nat.le_of_ble_eq_true rfl) ?_
  intro p e s m args below meth c F hr hnm
  refine j_aload_n F d_MT_init_0 rfl rfl ?_
  refine j_obj F wl_MT_1 wim_JO_init wco_JO_init (by decide) (Nat.le_of_ble_eq_true rfl) d_MT_init_1 ?_
  have K0 : kn_2 G M M x (.inr (0, [.null, .int 0, .null, .null])) [] := kn_rf hx
  refine j_aload_n F d_MT_init_4 rfl rfl ?_
  refine j_bipush F (v := 60) d_MT_init_5 (by decide) ?_
  refine j_newb F wa_byte (len := 60) (by decide) (by decide) (by decide) (by decide) (by decide) d_MT_init_7 (fun ta z_ta n_ta => ?_)
  refine j_nmW (P := fun M1 => kn_2 G M M1 x (.inr (0, [.null, .int 0, .null, .null])) [(ta, .inl (G.2.1.1, 60, .inl (fun _ => 0)))]) (kn_new K0 z_ta n_ta) (fun M1 K1 => ?_)
  refine j_putF F K1.1 zx rfl in_MT ty_MT ok_MT nm_MT 0 (by decide) wf_MT_9 rfl hnm rfl (ty := .array .byte) (by decide +kernel) rfl rfl (Nat.le_of_ble_eq_true rfl) d_MT_init_9 ?_
  refine j_nmW (P := fun M1 => kn_2 G M M1 x (.inr (0, [.ref ta, .int 0, .null, .null])) [(ta, .inl (G.2.1.1, 60, .inl (fun _ => 0)))]) (kn_set K1) (fun M2 K2 => ?_)
  refine j_aload_n F d_MT_init_12 rfl rfl ?_
  refine j_iconst F (v := 0) d_MT_init_13 (by decide) ?_
  refine j_put F K2.1 zx rfl in_MT ty_MT ok_MT nm_MT 1 (by decide) wf_MT_13 rfl (ty := .int) (by decide +kernel) rfl rfl (Nat.le_of_ble_eq_true rfl) d_MT_init_14 ?_
  refine j_nmW (P := fun M1 => kn_2 G M M1 x (.inr (0, [.ref ta, .int 0, .null, .null])) [(ta, .inl (G.2.1.1, 60, .inl (fun _ => 0)))]) (kn_set K2) (fun M3 K3 => ?_)
  refine j_aload_n F d_MT_init_17 rfl rfl ?_
  refine j_new F (ci := 1) (fs := [.null, .int 0]) rfl in_TR ty_TR ok_TR wc_MT_17 win_TR wi_TR (fun j hj => by rcases (show j = 0 ∨ j = 1 by omega) with rfl | rfl <;> rfl) (by decide) (by decide) d_MT_init_18 (fun tt z_tt n_tt => ?_)
  refine j_nmW (P := fun M1 => kn_2 G M M1 x (.inr (0, [.ref ta, .int 0, .null, .null])) [(tt, .inr (1, [.null, .int 0])), (ta, .inl (G.2.1.1, 60, .inl (fun _ => 0)))]) (kn_new K3 z_tt n_tt) (fun M4 K4 => ?_)
  have htt4 := (K4.2.1 _ List.mem_cons_self).1
  have hxt := (K4.2.1 _ List.mem_cons_self).2.1
  have hta4 := (K4.2.1 _ (List.mem_cons_of_mem _ List.mem_cons_self)).1
  have hxa := (K4.2.1 _ (List.mem_cons_of_mem _ List.mem_cons_self)).2.1
  refine j_dup F d_MT_init_21 rfl ?_
  refine j_callI F 0 (c_TR_init hl htt4 z_tt) wl_MT_19 wim_TR_init wi_TR wco_TR_init rfl (fun v M1 h => by cases h.1) (by decide +kernel) (by decide) rfl rfl (Nat.le_of_ble_eq_true rfl) (by decide) (by decide) d_MT_init_22 (fun M5 hp => ?_)
  obtain ⟨-, htt5, hf5⟩ := hp
  have hat : ta ≠ tt := fun z => by rw [z] at hta4; rw [htt4] at hta4; cases hta4
  have hx5 := (hf5 x (Ne.symm hxt)).trans K4.1
  have hta5 := (hf5 ta hat).trans hta4
  refine j_putF F hx5 zx rfl in_MT ty_MT ok_MT nm_MT 2 (by decide) wf_MT_20 rfl hnm rfl (ty := .object "MomentTree$Tree") (by decide +kernel) rfl rfl (Nat.le_of_ble_eq_true rfl) d_MT_init_25 ?_
  refine j_nmW (P := fun M6 => M6 x = some (.inr (0, [.ref ta, .int 0, .ref tt, .null])) ∧ ∀ q, q ≠ x → M6 q = M5 q) ⟨mp_Us _ _ _, fun q hq => mp_Un hq⟩ (fun M6 S6 => ?_)
  refine j_aload_n F d_MT_init_28 rfl rfl ?_
  refine j_null F d_MT_init_29 ?_
  refine j_put F S6.1 zx rfl in_MT ty_MT ok_MT nm_MT 3 (by decide) wf_MT_24 rfl (ty := .object "MomentTree$Version") (by decide +kernel) rfl rfl (Nat.le_of_ble_eq_true rfl) d_MT_init_30 ?_
  refine j_nmW (P := fun M7 => M7 x = some (xE ta (nI 0) tt none) ∧ ∀ q, q ≠ x → M7 q = M5 q) ⟨mp_Us _ _ _, fun q hq => (mp_Un hq).trans (S6.2 q hq)⟩ (fun M7 S7 => ?_)
  refine j_cret F hr (by decide) (by decide) ⟨rfl, ⟨ta, tt, none, [], fun _ => 0, 0, S7.1, (S7.2 ta hxa).trans hta5, (S7.2 tt hxt).trans htt5, ⟨rfl, rfl⟩, rfl, List.Pairwise.nil, List.nodup_nil, fun y hy => (by cases hy), ⟨zx, z_ta, z_tt⟩, ⟨fun z => z, fun z => z, fun z => z⟩, tp_nil _, by_0, ⟨Nat.zero_le _, fun _ h => (by cases h), Nat.zero_le _, fun _ h => (by cases h), fun _ h => (by cases h)⟩⟩, fun q e9 hq he => ?_⟩ d_MT_init_33
  have h4 := K4.2.2.2 q e9 hq he
  have hqt : q ≠ tt := fun z => by
    have := (K4.2.1 _ List.mem_cons_self).2.2.2
    dsimp only at this
    rw [z, this] at he
    cases he
  exact (S7.2 q hq).trans ((hf5 q hqt).trans h4)
set_option maxHeartbeats 8000000 in
set_option maxRecDepth 100000 in
theorem k_feed (hl : l.stackTraces = false) : K_feed l G := by
  intro M B x σ a0 a1 a2 a3 a4 A hB
  refine ct_of hl (by decide +kernel) (Nat.le_of_ble_eq_true rfl) ?_
  intro p e s m args below meth c F hr hnm
  obtain ⟨ta, tt, root, L, tf, h, C⟩ := cl_open A
  have hlen := cl_len C
  have C0 := C
  obtain ⟨hx, hta, htt, ht, hmap, hsr, nd, hL, ⟨zx, zta, ztt⟩, ⟨bx, bta, btt⟩, hT, hbt, hok⟩ := C
  have ok0 := hok
  obtain ⟨ok1, ok2, ok3, ok4, ok5⟩ := hok
  refine j_aload_n F d_MT_feed_0 rfl rfl ?_
  refine j_get F hx rfl in_MT 1 (by decide) wf_MT_13 rfl d_MT_feed_1 ?_
  refine j_bipush F (v := 40) d_MT_feed_4 (by decide) ?_
  refine j_icmp_le F (tgt := 17) d_MT_feed_6 (by decide) (fun hc => ?_) (fun hc => ?_)
  · skip
    have hk : σ.1.length ≤ 40 := (nI_leI (b := 40) (by omega) (by decide)).mp hc
    have e0 : sp_feed a0 a1 a2 a3 a4 σ = (0, nI (σ.1.length + 20), (σ.1 ++ by20 a0 a1 a2 a3 a4, σ.2)) := if_neg (by omega)
    rw [e0]
    have l4 : ∀ w, (by4 w).length = 4 := fun w => rfl
    have hxt : x ≠ ta := fun z => by rw [z, hta] at hx; cases hx
    refine j_aload_n F d_MT_feed_17 rfl rfl ?_
    refine j_iload_n F d_MT_feed_18 rfl rfl ?_
    refine j_callV F 1 (c_MT_append hl hx zx zta hta hbt hT (by first | omega | (simp only [List.length_append, l4]; omega)) a0) hx rfl wl_MT_31 wim_MT_append wse_MT_append wi_MT wco_MT_append (by decide +kernel) (by decide) rfl rfl (Nat.le_of_ble_eq_true rfl) (by decide) (by decide) d_MT_feed_19 (fun E M1 hx => hx.elim) (fun r N1 hp => ?_)
    obtain ⟨rfl, tf1, S1, T1, Q1⟩ := hp
    have X1 : N1 x = some (xE ta (nI (σ.1 ++ by4 a0).length) tt (σ.2.2.bind (fun c => (L[c]?).map (fun y => y.1)))) := by rw [List.length_append, l4]; exact S1.1
    refine j_aload_n F d_MT_feed_22 rfl rfl ?_
    refine j_iload_n F d_MT_feed_23 rfl rfl ?_
    refine j_callV F 1 (c_MT_append hl X1 zx zta S1.2.1 Q1 T1 (by first | omega | (simp only [List.length_append, l4]; omega)) a1) X1 rfl wl_MT_31 wim_MT_append wse_MT_append wi_MT wco_MT_append (by decide +kernel) (by decide) rfl rfl (Nat.le_of_ble_eq_true rfl) (by decide) (by decide) d_MT_feed_24 (fun E M1 hx => hx.elim) (fun r N2 hp => ?_)
    obtain ⟨rfl, tf2, S2, T2, Q2⟩ := hp
    have X2 : N2 x = some (xE ta (nI ((σ.1 ++ by4 a0) ++ by4 a1).length) tt (σ.2.2.bind (fun c => (L[c]?).map (fun y => y.1)))) := by rw [List.length_append, l4]; exact S2.1
    refine j_aload_n F d_MT_feed_27 rfl rfl ?_
    refine j_iload_n F d_MT_feed_28 rfl rfl ?_
    refine j_callV F 1 (c_MT_append hl X2 zx zta S2.2.1 Q2 T2 (by first | omega | (simp only [List.length_append, l4]; omega)) a2) X2 rfl wl_MT_31 wim_MT_append wse_MT_append wi_MT wco_MT_append (by decide +kernel) (by decide) rfl rfl (Nat.le_of_ble_eq_true rfl) (by decide) (by decide) d_MT_feed_29 (fun E M1 hx => hx.elim) (fun r N3 hp => ?_)
    obtain ⟨rfl, tf3, S3, T3, Q3⟩ := hp
    have X3 : N3 x = some (xE ta (nI (((σ.1 ++ by4 a0) ++ by4 a1) ++ by4 a2).length) tt (σ.2.2.bind (fun c => (L[c]?).map (fun y => y.1)))) := by rw [List.length_append, l4]; exact S3.1
    refine j_aload_n F d_MT_feed_32 rfl rfl ?_
    refine j_iload F d_MT_feed_33 rfl ?_
    refine j_callV F 1 (c_MT_append hl X3 zx zta S3.2.1 Q3 T3 (by first | omega | (simp only [List.length_append, l4]; omega)) a3) X3 rfl wl_MT_31 wim_MT_append wse_MT_append wi_MT wco_MT_append (by decide +kernel) (by decide) rfl rfl (Nat.le_of_ble_eq_true rfl) (by decide) (by decide) d_MT_feed_35 (fun E M1 hx => hx.elim) (fun r N4 hp => ?_)
    obtain ⟨rfl, tf4, S4, T4, Q4⟩ := hp
    have X4 : N4 x = some (xE ta (nI ((((σ.1 ++ by4 a0) ++ by4 a1) ++ by4 a2) ++ by4 a3).length) tt (σ.2.2.bind (fun c => (L[c]?).map (fun y => y.1)))) := by rw [List.length_append, l4]; exact S4.1
    refine j_aload_n F d_MT_feed_38 rfl rfl ?_
    refine j_iload F d_MT_feed_39 rfl ?_
    refine j_callV F 1 (c_MT_append hl X4 zx zta S4.2.1 Q4 T4 (by first | omega | (simp only [List.length_append, l4]; omega)) a4) X4 rfl wl_MT_31 wim_MT_append wse_MT_append wi_MT wco_MT_append (by decide +kernel) (by decide) rfl rfl (Nat.le_of_ble_eq_true rfl) (by decide) (by decide) d_MT_feed_41 (fun E M1 hx => hx.elim) (fun r N5 hp => ?_)
    obtain ⟨rfl, tf5, S5, T5, Q5⟩ := hp
    have X5 : N5 x = some (xE ta (nI (((((σ.1 ++ by4 a0) ++ by4 a1) ++ by4 a2) ++ by4 a3) ++ by4 a4).length) tt (σ.2.2.bind (fun c => (L[c]?).map (fun y => y.1)))) := by rw [List.length_append, l4]; exact S5.1
    refine j_aload_n F d_MT_feed_44 rfl rfl ?_
    refine j_get F X5 rfl in_MT 1 (by decide) wf_MT_13 rfl d_MT_feed_45 ?_
    have hk5 : (((((σ.1 ++ by4 a0) ++ by4 a1) ++ by4 a2) ++ by4 a3) ++ by4 a4) = σ.1 ++ by20 a0 a1 a2 a3 a4 := by rw [by20_4]; simp only [List.append_assoc]
    have hl5 : (((((σ.1 ++ by4 a0) ++ by4 a1) ++ by4 a2) ++ by4 a3) ++ by4 a4).length = σ.1.length + 20 := by simp only [List.length_append, l4]
    rw [hk5] at T5 X5
    have hfr : ∀ q, q ≠ x → q ≠ ta → N5 q = M q := fun q y1 y2 => (S5.2.2 q y1 y2).trans ((S4.2.2 q y1 y2).trans ((S3.2.2 q y1 y2).trans ((S2.2.2 q y1 y2).trans (S1.2.2 q y1 y2))))
    refine j_iret F hr (by decide) (by decide) ⟨rfl, by rw [hl5], cl_re C0 X5 S5.2.1 (fun q w y1 y2 y3 => (hfr q y1 y2).trans y3) rfl T5 Q5 ⟨?_, ?_, ok3, ok4, ok5⟩, fun q hq => hfr q (fun z => bx (by rw [← z]; exact hq)) (fun z => bta (by rw [← z]; exact hq))⟩ d_MT_feed_48
    · dsimp only
      rw [List.length_append, by20_len]
      omega
    · intro y hy
      rcases List.mem_append.mp hy with z | z
      · exact ok2 y z
      · obtain ⟨q, -, rfl⟩ := List.mem_map.mp z
        exact b1_byte _ _
  · skip
    have hk : 40 < σ.1.length := Nat.not_le.mp (fun z => hc ((nI_leI (b := 40) (by omega) (by decide)).mpr z))
    have e0 : sp_feed a0 a1 a2 a3 a4 σ = (1, 0, σ) := if_pos hk
    rw [e0]
    exact j_throw F (names := ["java/lang/RuntimeException", "java/lang/Exception"]) (by decide +kernel) (by decide +kernel) wc_MT_28 wi_IO w3_IO w4_IO (jf_sx F).2.2.2.2.2.2.2.2.2.1 wg_IO_28 rfl (by decide) (Nat.le_of_ble_eq_true rfl) (by decide) (by decide) (⟨⟨0, rfl, rfl⟩, A, fun _ _ => rfl⟩) d_MT_feed_9 d_MT_feed_12 d_MT_feed_13 d_MT_feed_16
set_option maxHeartbeats 8000000 in
set_option maxRecDepth 100000 in
theorem k_end (hl : l.stackTraces = false) : K_end l G := by
  intro M B x σ a0 A hB
  refine ct_of hl (by decide +kernel) (Nat.le_of_ble_eq_true rfl) ?_
  intro p e s m args below meth c F hr hnm
  obtain ⟨ta, tt, root, L, tf, h, C⟩ := cl_open A
  have hlen := cl_len C
  have C0 := C
  obtain ⟨hx, hta, htt, ht, hmap, hsr, nd, hL, ⟨zx, zta, ztt⟩, ⟨bx, bta, btt⟩, hT, hbt, hok⟩ := C
  have ok0 := hok
  obtain ⟨ok1, ok2, ok3, ok4, ok5⟩ := hok
  refine j_iload_n F d_MT_end_0 rfl rfl ?_
  refine j_if_lt F (tgt := 12) d_MT_end_1 (by decide) (fun hc => ?_) (fun hc => ?_)
  · skip
    have e0 : sp_end a0 σ = (1, 0, σ) := if_pos (Or.inl hc)
    rw [e0]
    exact j_throw F (names := ["java/lang/RuntimeException", "java/lang/Exception"]) (by decide +kernel) (by decide +kernel) wc_MT_35 wi_IA w3_IA w4_IA (jf_sx F).2.2.2.2.2.2.2.1 wg_IA_35 rfl (by decide) (Nat.le_of_ble_eq_true rfl) (by decide) (by decide) (⟨⟨0, rfl, rfl⟩, A, fun _ _ => rfl⟩) d_MT_end_12 d_MT_end_15 d_MT_end_16 d_MT_end_19
  · skip
    refine j_iload_n F d_MT_end_4 rfl rfl ?_
    refine j_aload_n F d_MT_end_5 rfl rfl ?_
    refine j_get F hx rfl in_MT 1 (by decide) wf_MT_13 rfl d_MT_end_6 ?_
    refine j_icmp_le F (tgt := 20) d_MT_end_9 (by decide) (fun hc2 => ?_) (fun hc2 => ?_)
    · skip
      have e0 : sp_end a0 σ = (0, a0, (σ.1.take a0.toNatClampNeg, σ.2)) := if_neg (fun z => z.elim hc (fun z => absurd hc2 (Int32.not_le.mpr z)))
      rw [e0]
      refine j_aload_n F d_MT_end_20 rfl rfl ?_
      refine j_iload_n F d_MT_end_21 rfl rfl ?_
      refine j_put F hx zx rfl in_MT ty_MT ok_MT nm_MT 1 (by decide) wf_MT_13 rfl (ty := .int) (by decide +kernel) rfl rfl (Nat.le_of_ble_eq_true rfl) d_MT_end_22 ?_
      refine j_iload_n F d_MT_end_25 rfl rfl ?_
      obtain ⟨j, hj1, rfl⟩ := nI_of hc
      have hj2 : j ≤ σ.1.length := (nI_leI hj1 (by omega)).mp hc2
      have hl9 : (σ.1.take (nI j).toNatClampNeg).length = j := by rw [nI_clamp hj1, List.length_take]; omega
      have hxt : x ≠ ta := fun z => by rw [z, hta] at hx; cases hx
      refine j_iret F hr (by decide) (by decide) ⟨rfl, rfl, cl_re C0 (σ1 := (σ.1.take (nI j).toNatClampNeg, σ.2)) ?_ ((mp_Un (Ne.symm hxt)).trans hta) (fun q w y1 y2 y3 => (mp_Un y1).trans y3) rfl (tp_take _ hT) hbt ⟨by dsimp only; omega, fun y hy => ok2 y (List.mem_of_mem_take hy), ok3, ok4, ok5⟩, fun q hq => mp_Un (fun z => bx (by rw [← z]; exact hq))⟩ d_MT_end_26
      dsimp only
      rw [hl9]
      exact mp_Us _ _ _
    · skip
      have e0 : sp_end a0 σ = (1, 0, σ) := if_pos (Or.inr (Int32.not_le.mp hc2))
      rw [e0]
      exact j_throw F (names := ["java/lang/RuntimeException", "java/lang/Exception"]) (by decide +kernel) (by decide +kernel) wc_MT_35 wi_IA w3_IA w4_IA (jf_sx F).2.2.2.2.2.2.2.1 wg_IA_35 rfl (by decide) (Nat.le_of_ble_eq_true rfl) (by decide) (by decide) (⟨⟨0, rfl, rfl⟩, A, fun _ _ => rfl⟩) d_MT_end_12 d_MT_end_15 d_MT_end_16 d_MT_end_19
set_option maxHeartbeats 8000000 in
set_option maxRecDepth 100000 in
theorem k_clear (hl : l.stackTraces = false) : K_clear l G := by
  intro M B x σ  A hB
  refine ct_of hl (by decide +kernel) (Nat.le_of_ble_eq_true rfl) ?_
  intro p e s m args below meth c F hr hnm
  obtain ⟨ta, tt, root, L, tf, h, C⟩ := cl_open A
  have hlen := cl_len C
  have C0 := C
  obtain ⟨hx, hta, htt, ht, hmap, hsr, nd, hL, ⟨zx, zta, ztt⟩, ⟨bx, bta, btt⟩, hT, hbt, hok⟩ := C
  have ok0 := hok
  obtain ⟨ok1, ok2, ok3, ok4, ok5⟩ := hok
  refine j_aload_n F d_MT_clear_0 rfl rfl ?_
  refine j_get F hx rfl in_MT 2 (by decide) wf_MT_20 rfl d_MT_clear_1 ?_
  refine j_get F htt rfl in_TR 1 (by decide) wf_MT_62 rfl d_MT_clear_4 ?_
  refine j_istore_n F (lv1 := [(1, _), (0, _)]) d_MT_clear_7 rfl (by decide) rfl ?_
  refine j_aload_n F d_MT_clear_8 rfl rfl ?_
  refine j_get F hx rfl in_MT 2 (by decide) wf_MT_20 rfl d_MT_clear_9 ?_
  refine j_callV F 0 (c_TR_empty hl htt ztt) htt rfl wl_MT_95 wim_TR_empty wse_TR_empty wi_TR wco_TR_empty (by decide +kernel) (by decide) rfl rfl (Nat.le_of_ble_eq_true rfl) (by decide) (by decide) d_MT_clear_12 (fun E M1 hx => hx.elim) (fun r M1 hp => ?_)
  obtain ⟨rfl, ht1, hf1⟩ := hp
  have hxtt : x ≠ tt := fun z => by rw [z, htt] at hx; cases hx
  have htat : ta ≠ tt := fun z => by rw [z, htt] at hta; cases hta
  have hxta : x ≠ ta := fun z => by rw [z, hta] at hx; cases hx
  have hx1 := (hf1 x hxtt).trans hx
  refine j_aload_n F d_MT_clear_15 rfl rfl ?_
  refine j_null F d_MT_clear_16 ?_
  refine j_put F hx1 zx rfl in_MT ty_MT ok_MT nm_MT 3 (by decide) wf_MT_24 rfl (ty := .object "MomentTree$Version") (by decide +kernel) rfl rfl (Nat.le_of_ble_eq_true rfl) d_MT_clear_17 ?_
  refine j_iload_n F d_MT_clear_20 rfl rfl ?_
  refine j_iret F hr (by decide) (by decide) ⟨rfl, rfl, ⟨ta, tt, none, [], tf, 0, mp_Us _ _ _, (mp_Un (Ne.symm hxta)).trans ((hf1 ta htat).trans hta), (mp_Un (Ne.symm hxtt)).trans ht1, ⟨rfl, rfl⟩, rfl, List.Pairwise.nil, List.nodup_nil, fun y hy => (by cases hy), ⟨zx, zta, ztt⟩, ⟨bx, bta, btt⟩, hT, hbt, ⟨ok1, ok2, Nat.zero_le _, fun _ h => (by cases h), fun _ h => (by cases h)⟩⟩, fun q hq => (mp_Un (fun z => bx (by rw [← z]; exact hq))).trans (hf1 q (fun z => btt (by rw [← z]; exact hq)))⟩ d_MT_clear_21
set_option maxHeartbeats 8000000 in
set_option maxRecDepth 100000 in
theorem k_count (hl : l.stackTraces = false) : K_count l G := by
  intro M B x σ  A hB
  refine ct_of hl (by decide +kernel) (Nat.le_of_ble_eq_true rfl) ?_
  intro p e s m args below meth c F hr hnm
  obtain ⟨ta, tt, root, L, tf, h, C⟩ := cl_open A
  have hlen := cl_len C
  have C0 := C
  obtain ⟨hx, hta, htt, ht, hmap, hsr, nd, hL, ⟨zx, zta, ztt⟩, ⟨bx, bta, btt⟩, hT, hbt, hok⟩ := C
  have ok0 := hok
  obtain ⟨ok1, ok2, ok3, ok4, ok5⟩ := hok
  have hh := tr_h ht (by omega)
  have hk40 := ky40 C0
  refine j_aload_n F d_MT_count_0 rfl rfl ?_
  refine j_get F hx rfl in_MT 2 (by decide) wf_MT_20 rfl d_MT_count_1 ?_
  refine j_callV F 0 (c_TR_countIfSound hl htt ht (by omega) (by omega) (fun y hy => by have := hk40 y hy; omega) (by rw [hmap]; exact hsr)) htt rfl wl_MT_98 wim_TR_countIfSound wse_TR_countIfSound wi_TR wco_TR_countIfSound (by decide +kernel) (by decide) rfl rfl (Nat.le_of_ble_eq_true rfl) (by decide) (by decide) d_MT_count_4 (fun E M1 hx => hx.elim) (fun r M1 hp => ?_)
  obtain ⟨rfl, rfl⟩ := hp
  exact j_iret F hr (by decide) (by decide) ⟨rfl, by rw [hlen], A, fun _ _ => rfl⟩ d_MT_count_7
set_option maxHeartbeats 8000000 in
set_option maxRecDepth 100000 in
theorem k_current (hl : l.stackTraces = false) : K_current l G := by
  intro M B x σ a0 A hB
  refine ct_of hl (by decide +kernel) (Nat.le_of_ble_eq_true rfl) ?_
  intro p e s m args below meth c F hr hnm
  obtain ⟨ta, tt, root, L, tf, h, C⟩ := cl_open A
  have hlen := cl_len C
  have C0 := C
  obtain ⟨hx, hta, htt, ht, hmap, hsr, nd, hL, ⟨zx, zta, ztt⟩, ⟨bx, bta, btt⟩, hT, hbt, hok⟩ := C
  have ok0 := hok
  obtain ⟨ok1, ok2, ok3, ok4, ok5⟩ := hok
  refine j_iload_n F d_MT_current_0 rfl rfl ?_
  refine j_if_lt F (tgt := 9) d_MT_current_1 (by decide) (fun hc => ?_) (fun hc => ?_)
  · skip
    have e0 : sp_current a0 σ = (1, 0, σ) := if_pos (Or.inl hc)
    rw [e0]
    exact j_throw F (names := ["java/lang/RuntimeException", "java/lang/Exception"]) (by decide +kernel) (by decide +kernel) wc_MT_35 wi_IA w3_IA w4_IA (jf_sx F).2.2.2.2.2.2.2.1 wg_IA_35 rfl (by decide) (Nat.le_of_ble_eq_true rfl) (by decide) (by decide) (⟨⟨0, rfl, rfl⟩, A, fun _ _ => rfl⟩) d_MT_current_9 d_MT_current_12 d_MT_current_13 d_MT_current_16
  · skip
    refine j_iload_n F d_MT_current_4 rfl rfl ?_
    refine j_iconst F (v := 3) d_MT_current_5 (by decide) ?_
    refine j_icmp_le F (tgt := 17) d_MT_current_6 (by decide) (fun hc2 => ?_) (fun hc2 => ?_)
    · skip
      have hs : sp_current a0 σ = match cu_E σ with
        | none => (2, 0, σ)
        | some e => (0, if a0 = 0 then e.2.1 else if a0 = 1 then e.2.2.1 else if a0 = 2 then e.2.2.2 else nI e.1.length, σ) := if_neg (fun z => z.elim hc (fun z => absurd hc2 (Int32.not_le.mpr z)))
      refine j_aload_n F d_MT_current_17 rfl rfl ?_
      refine j_get F hx rfl in_MT 3 (by decide) wf_MT_24 rfl d_MT_current_18 ?_
      rcases cl_cur C0 with ⟨hn1, hn2, hn3⟩ | ⟨cc0, y, hn1, hy1, hy2, hn2, hn3⟩
      · skip
        rw [hn2]
        have e0 : sp_current a0 σ = (2, 0, σ) := by rw [hs, hn3]
        rw [e0]
        refine j_ifnonnull F (tgt := 32) d_MT_current_21 (by decide) (fun z hz => by cases hz) (fun hz => ?_)
        exact j_throw F (names := ["java/lang/RuntimeException", "java/lang/Exception"]) (by decide +kernel) (by decide +kernel) wc_MT_92 wi_NS w3_NS w4_NS (jf_sx F).2.2.2.2.2.2.2.2.2.2.1 wg_NS_92 rfl (by decide) (Nat.le_of_ble_eq_true rfl) (by decide) (by decide) (⟨⟨1, rfl, rfl⟩, A, fun _ _ => rfl⟩) d_MT_current_24 d_MT_current_27 d_MT_current_28 d_MT_current_31
      · skip
        rw [hn2] at hx ⊢
        have e0 : sp_current a0 σ = (0, if a0 = 0 then y.2.2.2.1 else if a0 = 1 then y.2.2.2.2.1 else if a0 = 2 then y.2.2.2.2.2 else nI y.2.2.1.length, σ) := by rw [hs, hn3]
        rw [e0]
        obtain ⟨⟨ht9, l9, r9, hv⟩, kf9, hk9, -⟩ := tr_no _ ht y hy2
        refine j_ifnonnull F (r := some y.1) (tgt := 32) d_MT_current_21 (by decide) (fun z hz => ?_) (fun hz => by cases hz)
        refine j_iload_n F d_MT_current_32 rfl rfl ?_
        obtain ⟨j, hj1, rfl⟩ := nI_of hc
        have hj2 : j ≤ 3 := (nI_leI (b := 3) hj1 (by decide)).mp hc2
        have hjt : (nI j).toInt = (j : Int) := nI_toInt hj1
        by_cases hj0 : j = 0
        · skip
          subst hj0
          refine j_tableIn F (off := 27) (tgt := 60) d_MT_current_33 (by rw [hjt]; decide) (by rw [hjt]; decide) (by rw [hjt]; rfl) (by decide) ?_
          refine j_aload_n F d_MT_current_60 rfl rfl ?_
          refine j_get F hx rfl in_MT 3 (by decide) wf_MT_24 rfl d_MT_current_61 ?_
          refine j_get F hv rfl in_VE 1 (by decide) wf_MT_86 rfl d_MT_current_64 ?_
          exact j_iret F hr (by decide) (by decide) ⟨rfl, by dsimp only; rw [if_pos (show nI 0 = 0 from rfl)], A, fun _ _ => rfl⟩ d_MT_current_67
        by_cases hj1 : j = 1
        · skip
          subst hj1
          refine j_tableIn F (off := 35) (tgt := 68) d_MT_current_33 (by rw [hjt]; decide) (by rw [hjt]; decide) (by rw [hjt]; rfl) (by decide) ?_
          refine j_aload_n F d_MT_current_68 rfl rfl ?_
          refine j_get F hx rfl in_MT 3 (by decide) wf_MT_24 rfl d_MT_current_69 ?_
          refine j_get F hv rfl in_VE 2 (by decide) wf_MT_56 rfl d_MT_current_72 ?_
          exact j_iret F hr (by decide) (by decide) ⟨rfl, by dsimp only; rw [if_neg (by decide), if_pos (show nI 1 = 1 from rfl)], A, fun _ _ => rfl⟩ d_MT_current_75
        by_cases hj2 : j = 2
        · skip
          subst hj2
          refine j_tableIn F (off := 43) (tgt := 76) d_MT_current_33 (by rw [hjt]; decide) (by rw [hjt]; decide) (by rw [hjt]; rfl) (by decide) ?_
          refine j_aload_n F d_MT_current_76 rfl rfl ?_
          refine j_get F hx rfl in_MT 3 (by decide) wf_MT_24 rfl d_MT_current_77 ?_
          refine j_get F hv rfl in_VE 3 (by decide) wf_MT_59 rfl d_MT_current_80 ?_
          exact j_iret F hr (by decide) (by decide) ⟨rfl, by dsimp only; rw [if_neg (by decide), if_neg (by decide), if_pos (show nI 2 = 2 from rfl)], A, fun _ _ => rfl⟩ d_MT_current_83
        obtain rfl : j = 3 := by omega
        refine j_tableOut F (tgt := 84) d_MT_current_33 (Or.inr (by rw [hjt]; decide)) (by decide) ?_
        refine j_aload_n F d_MT_current_84 rfl rfl ?_
        refine j_get F hx rfl in_MT 3 (by decide) wf_MT_24 rfl d_MT_current_85 ?_
        refine j_get F hv rfl in_VE 0 (by decide) wf_MT_75 rfl d_MT_current_88 ?_
        refine j_blen F hk9 rfl d_MT_current_91 ?_
        exact j_iret F hr (by decide) (by decide) ⟨rfl, by dsimp only; rw [if_neg (by decide), if_neg (by decide), if_neg (by decide)]; rfl, A, fun _ _ => rfl⟩ d_MT_current_92
    · skip
      have e0 : sp_current a0 σ = (1, 0, σ) := if_pos (Or.inr (Int32.not_le.mp hc2))
      rw [e0]
      exact j_throw F (names := ["java/lang/RuntimeException", "java/lang/Exception"]) (by decide +kernel) (by decide +kernel) wc_MT_35 wi_IA w3_IA w4_IA (jf_sx F).2.2.2.2.2.2.2.1 wg_IA_35 rfl (by decide) (Nat.le_of_ble_eq_true rfl) (by decide) (by decide) (⟨⟨0, rfl, rfl⟩, A, fun _ _ => rfl⟩) d_MT_current_9 d_MT_current_12 d_MT_current_13 d_MT_current_16
set_option maxHeartbeats 8000000 in
set_option maxRecDepth 100000 in
theorem k_word (hl : l.stackTraces = false) : K_word l G := by
  intro M B x σ a0 A hB
  refine ct_of hl (by decide +kernel) (Nat.le_of_ble_eq_true rfl) ?_
  intro p e s m args below meth c F hr hnm
  obtain ⟨ta, tt, root, L, tf, h, C⟩ := cl_open A
  have hlen := cl_len C
  have C0 := C
  obtain ⟨hx, hta, htt, ht, hmap, hsr, nd, hL, ⟨zx, zta, ztt⟩, ⟨bx, bta, btt⟩, hT, hbt, hok⟩ := C
  have ok0 := hok
  obtain ⟨ok1, ok2, ok3, ok4, ok5⟩ := hok
  refine j_aload_n F d_MT_word_0 rfl rfl ?_
  refine j_get F hx rfl in_MT 3 (by decide) wf_MT_24 rfl d_MT_word_1 ?_
  rcases cl_cur C0 with ⟨hn1, hn2, hn3⟩ | ⟨cc0, y, hn1, hy1, hy2, hn2, hn3⟩
  · skip
    rw [hn2]
    have e0 : sp_word a0 σ = (1, 0, σ) := by unfold sp_word; rw [hn3]
    rw [e0]
    refine j_ifnonnull F (tgt := 15) d_MT_word_4 (by decide) (fun z hz => by cases hz) (fun hz => ?_)
    exact j_throw F (names := ["java/lang/RuntimeException", "java/lang/Exception"]) (by decide +kernel) (by decide +kernel) wc_MT_92 wi_NS w3_NS w4_NS (jf_sx F).2.2.2.2.2.2.2.2.2.2.1 wg_NS_92 rfl (by decide) (Nat.le_of_ble_eq_true rfl) (by decide) (by decide) (⟨⟨0, rfl, rfl⟩, A, fun _ _ => rfl⟩) d_MT_word_7 d_MT_word_10 d_MT_word_11 d_MT_word_14
  · skip
    rw [hn2] at hx ⊢
    have hs : sp_word a0 σ = if a0 < 0 ∨ nI y.2.2.1.length ≤ a0 then (2, 0, σ) else (0, wo_8 y.2.2.1 a0.toNatClampNeg 8, σ) := by unfold sp_word; rw [hn3]
    obtain ⟨⟨ht9, l9, r9, hv⟩, hk9⟩ := tr_no _ ht y hy2
    have hk40 := ky40 C0 y hy2
    have hka : ka_R G M y.2.1 y.2.2.1 := Or.inl hk9
    refine j_ifnonnull F (r := some y.1) (tgt := 15) d_MT_word_4 (by decide) (fun z hz => ?_) (fun hz => by cases hz)
    refine j_aload_n F d_MT_word_15 rfl rfl ?_
    refine j_get F hx rfl in_MT 3 (by decide) wf_MT_24 rfl d_MT_word_16 ?_
    refine j_get F hv rfl in_VE 0 (by decide) wf_MT_75 rfl d_MT_word_19 ?_
    refine j_astore_n F (lv1 := [(2, _), (0, _), (1, _)]) d_MT_word_22 rfl (by decide) rfl ?_
    refine j_iload_n F d_MT_word_23 rfl rfl ?_
    refine j_if_lt F (tgt := 33) d_MT_word_24 (by decide) (fun hc1 => ?_) (fun hc1 => ?_)
    · skip
      have e0 : sp_word a0 σ = (2, 0, σ) := hs.trans (if_pos (Or.inl hc1))
      rw [e0]
      exact j_throw F (names := ["java/lang/RuntimeException", "java/lang/Exception"]) (by decide +kernel) (by decide +kernel) wc_MT_28 wi_IO w3_IO w4_IO (jf_sx F).2.2.2.2.2.2.2.2.2.1 wg_IO_28 rfl (by decide) (Nat.le_of_ble_eq_true rfl) (by decide) (by decide) (⟨⟨1, rfl, rfl⟩, A, fun _ _ => rfl⟩) d_MT_word_33 d_MT_word_36 d_MT_word_37 d_MT_word_40
    · skip
      refine j_iload_n F d_MT_word_27 rfl rfl ?_
      refine j_aload_n F d_MT_word_28 rfl rfl ?_
      refine j_klen F hka d_MT_word_29 ?_
      refine j_icmp_lt F (tgt := 41) d_MT_word_30 (by decide) (fun hc2 => ?_) (fun hc2 => ?_)
      · skip
        obtain ⟨i0, hi1, rfl⟩ := nI_of hc1
        have hi2 : i0 < y.2.2.1.length := (nI_ltI (by omega) (by omega)).mp hc2
        have e0 : sp_word (nI i0) σ = (0, wo_8 y.2.2.1 i0 8, σ) := by rw [hs, if_neg (fun z => z.elim hc1 (fun z => absurd hc2 (Int32.not_lt.mpr z))), nI_clamp hi1]
        rw [e0]
        refine j_lconst F (v := 0) d_MT_word_41 (by decide) ?_
        refine j_lstore_n F (lv1 := [(3, _), (2, _), (0, _), (1, _)]) d_MT_word_42 rfl (by decide) rfl ?_
        refine j_iload_n F d_MT_word_43 rfl rfl ?_
        refine j_istore F (lv1 := [(5, _), (3, _), (2, _), (0, _), (1, _)]) d_MT_word_44 (by decide) rfl ?_
        refine j_lv (lv1 := [(5, .int (nI (i0 + 0))), (3, .long (wo_8 y.2.2.1 i0 0)), (2, .ref y.2.1), (0, .ref x), (1, .int (nI i0))]) rfl ?_
        refine j_ind (α := Nat) (fun n => 8 - n) (fun _ => M) (fun _ => 0) (fun _ => 0) (fun n => [(5, .int (nI (i0 + n))), (3, .long (wo_8 y.2.2.1 i0 n)), (2, .ref y.2.1), (0, .ref x), (1, .int (nI i0))]) (fun _ => []) (fun n => n ≤ 8) ?_ 0 (Nat.zero_le _)
        intro n hn ih
        refine j_iload F d_MT_word_46 rfl ?_
        refine j_iload_n F d_MT_word_48 rfl rfl ?_
        refine j_bipush F (v := 8) d_MT_word_49 (by decide) ?_
        refine j_iadd F d_MT_word_51 ?_
        refine j_val (y := nI (i0 + 8)) (nI_add i0 8) ?_
        refine j_icmp_ge F (tgt := 87) d_MT_word_52 (by decide) (fun hc3 => ?_) (fun hc3 => ?_)
        · skip
          have hn8 : n = 8 := by
            have := (nI_leI (a := i0 + 8) (b := i0 + n) (by omega) (by omega)).mp hc3
            omega
          subst hn8
          refine j_lload_n F d_MT_word_87 rfl rfl ?_
          exact j_lret F hr (by decide) (by decide) ⟨rfl, rfl, A, fun _ _ => rfl⟩ d_MT_word_88
        · skip
          have hn8 : n < 8 := by
            apply Nat.not_le.mp
            intro z
            exact hc3 ((nI_leI (by omega) (by omega)).mpr (by omega))
          refine j_lload_n F d_MT_word_55 rfl rfl ?_
          refine j_bipush F (v := 8) d_MT_word_56 (by decide) ?_
          refine j_lshl F d_MT_word_58 rfl ?_
          refine j_iload F d_MT_word_59 rfl ?_
          refine j_aload_n F d_MT_word_61 rfl rfl ?_
          refine j_klen F hka d_MT_word_62 ?_
          refine j_cut (α := Nat) (fun q => q < 256 ∧ wo_b y.2.2.1 (i0 + n) = nI q) (fun _ => M) (fun _ => 0) (fun _ => 0) (fun _ => [(5, .int (nI (i0 + n))), (3, .long (wo_8 y.2.2.1 i0 n)), (2, .ref y.2.1), (0, .ref x), (1, .int (nI i0))]) 78 (fun q => [.int (nI q), .long (wo_8 y.2.2.1 i0 n <<< ((8 : Int32).toInt64 &&& 63))]) ?_ (fun at78 => ?_)
          · skip
            intro q hq
            refine j_i2l F d_MT_word_78 rfl ?_
            refine j_lor F d_MT_word_79 ?_
            refine j_valL (y := wo_8 y.2.2.1 i0 (n + 1)) (by rw [wo_or _ hq.1, ← hq.2]; rfl) ?_
            refine j_lstore_n F (lv1 := [(3, _), (5, _), (2, _), (0, _), (1, _)]) d_MT_word_80 rfl (by decide) rfl ?_
            refine j_iinc F (lv1 := [(5, _), (3, _), (2, _), (0, _), (1, _)]) d_MT_word_81 rfl (nI_1 _) (by decide) rfl ?_
            refine j_goto F (tgt := 46) d_MT_word_84 (by decide) ?_
            exact ih (n + 1) hn8 (by omega)
          refine j_icmp_ge F (tgt := 77) d_MT_word_63 (by decide) (fun hc4 => ?_) (fun hc4 => ?_)
          · skip
            have hge : y.2.2.1.length ≤ i0 + n := (nI_leI (by omega) (by omega)).mp hc4
            refine j_iconst F (v := 0) d_MT_word_77 (by decide) ?_
            exact at78 0 ⟨by decide, if_neg (by omega)⟩
          · skip
            have hlt : i0 + n < y.2.2.1.length := Nat.not_le.mp (fun z => hc4 ((nI_leI (by omega) (by omega)).mpr z))
            refine j_aload_n F d_MT_word_66 rfl rfl ?_
            refine j_iload F d_MT_word_67 rfl ?_
            refine j_kald F hka hlt (by omega) d_MT_word_69 ?_
            refine j_sipush F (v := 255) d_MT_word_70 (by decide) ?_
            refine j_iand F d_MT_word_73 ?_
            refine j_val (y := nI (un (y.2.2.1.getD (i0 + n) 0))) (un_and _) ?_
            refine j_goto F (tgt := 78) d_MT_word_74 (by decide) ?_
            exact at78 _ ⟨un_lt _, if_pos hlt⟩
      · skip
        have e0 : sp_word a0 σ = (2, 0, σ) := hs.trans (if_pos (Or.inr (Int32.not_lt.mp hc2)))
        rw [e0]
        exact j_throw F (names := ["java/lang/RuntimeException", "java/lang/Exception"]) (by decide +kernel) (by decide +kernel) wc_MT_28 wi_IO w3_IO w4_IO (jf_sx F).2.2.2.2.2.2.2.2.2.1 wg_IO_28 rfl (by decide) (Nat.le_of_ble_eq_true rfl) (by decide) (by decide) (⟨⟨1, rfl, rfl⟩, A, fun _ _ => rfl⟩) d_MT_word_33 d_MT_word_36 d_MT_word_37 d_MT_word_40
end MT2
end
section
theorem cl_reC {G : gv_T} {M M1 : mp_T} {B : Nat → Prop} {x : Nat} {σ σ1 : sg_T} {ta tt : Nat} {root : Option Nat} {L : List no_T} {tf tf1 : Nat → Int32} {h : Nat} (C : cl_C G M B x σ ta tt root L tf h)
    (hx1 : M1 x = some (xE ta (nI σ1.1.length) tt (σ1.2.2.bind (fun c => (L[c]?).map (fun y => y.1))))) (hta1 : M1 ta = some (.inl (G.2.1.1, 60, .inl tf1))) (hf : ∀ q w, q ≠ x → q ≠ ta → M q = some w → M1 q = some w) (he : σ1.2.1 = σ.2.1) (hT1 : tp_R σ1.1 tf1) (hb1 : by_Q tf1) (ok1 : sg_ok σ1) : cl_C G M1 B x σ1 ta tt root L tf1 h := by
  obtain ⟨hx, hta, htt, ht, hmap, hsr, nd, hL, hz, hB, hT, hbt, hok⟩ := C
  have hk := tr_no _ ht
  refine ⟨hx1, hta1, ?_, ?_, ?_, ?_, nd, hL, hz, hB, hT1, hb1, ok1⟩
  · rw [he]
    exact hf tt _ (fun z => by rw [z, hx] at htt; cases htt) (fun z => by rw [z, hta] at htt; cases htt) htt
  · refine tr_mono _ ht (fun y hy => ⟨fun e hq => ?_, fun e hq => ?_⟩)
    · obtain ⟨⟨w1, w2, w3, w4⟩, -⟩ := hk y hy
      exact hf _ _ (fun z => by rw [z, hx] at w4; cases w4) (fun z => by rw [z, hta] at w4; cases w4) hq
    · obtain ⟨-, kf, w4, -⟩ := hk y hy
      exact hf _ _ (fun z => by rw [z, hx] at w4; cases w4) (hL y hy).1 hq
  · rw [he]; exact hmap
  · rw [he]; exact hsr
/-- x's cell alone is written -/
theorem cl_x {G : gv_T} {M M1 : mp_T} {B : Nat → Prop} {x : Nat} {σ σ1 : sg_T} {ta tt : Nat} {root : Option Nat} {L : List no_T} {tf : Nat → Int32} {h : Nat} (C : cl_C G M B x σ ta tt root L tf h) (hx1 : M1 x = some (xE ta (nI σ1.1.length) tt (σ1.2.2.bind (fun c => (L[c]?).map (fun y => y.1))))) (hf : ∀ q w, q ≠ x → M q = some w → M1 q = some w) (he : σ1.2.1 = σ.2.1) (h1 : σ1.1 = [] ∨ σ1.1 = σ.1) (hc : ∀ c, σ1.2.2 = some c → c < σ.2.1.length) : cl_C G M1 B x σ1 ta tt root L tf h := by
  have hxt : ta ≠ x := fun z => by
    have h1 := C.1
    rw [← z, C.2.1] at h1
    cases h1
  have hT := C.2.2.2.2.2.2.2.2.2.2.1
  have ok := C.2.2.2.2.2.2.2.2.2.2.2.2
  refine cl_reC C hx1 (hf ta _ hxt C.2.1) (fun q w y1 _ y3 => hf q w y1 y3) he ?_ C.2.2.2.2.2.2.2.2.2.2.2.1 ⟨?_, ?_, by rw [he]; exact ok.2.2.1, by rw [he]; exact ok.2.2.2.1, by rw [he]; exact hc⟩
  · rcases h1 with z | z
    · rw [z]; exact tp_nil _
    · rw [z]; exact hT
  · rcases h1 with z | z
    · rw [z]; exact Nat.zero_le _
    · rw [z]; exact ok.1
  · rcases h1 with z | z
    · rw [z]; exact fun _ h => (by cases h)
    · rw [z]; exact ok.2.1
theorem sk_nx {es : List en_T} {c : Nat} {e : en_T} (hs : srt es) (he : es[c]? = some e) : sk_v es e.1 e.2.1 true = c + 1 := by
  have hcl : c < es.length := (List.getElem?_eq_some_iff.mp he).1
  have hpw := List.pairwise_iff_getElem.mp hs
  have hec : es[c] = e := by
    have := List.getElem?_eq_getElem hcl
    rw [he] at this
    exact (Option.some.inj this).symm
  refine (sk_of hs (fun i e1 hi h1 => ?_) hcl (fun e1 h1 => ?_)).symm
  · have hil : i < es.length := by omega
    rw [List.getElem?_eq_getElem hil] at h1
    cases h1
    by_cases hic : i = c
    · subst hic
      refine Or.inr ⟨rfl, ?_⟩
      rw [hec]
      have h0 : kc e.1 e.1 = 0 := by
        have := kc_neg e.1 e.1
        omega
      rw [oc_m h0, if_neg Int32.lt_irrefl, if_neg Int32.lt_irrefl]
    · have := hpw i c hil hcl (by omega)
      rw [hec] at this
      exact Or.inl this
  · have hil : c + 1 < es.length := (List.getElem?_eq_some_iff.mp h1).1
    rw [List.getElem?_eq_getElem hil] at h1
    cases h1
    have h2 := hpw c (c + 1) hcl hil (Nat.lt_succ_self _)
    rw [hec] at h2
    have h3 := (oc_anti _ _).1.mp h2
    rintro (z | z) <;> omega
theorem fi_0 {es : List en_T} (h : ∀ e ∈ es, 1 ≤ e.1.length) : fi es [] 0 = 0 := by
  cases es with
  | nil => rfl
  | cons e t =>
    have h1 := h e List.mem_cons_self
    have hk : kc e.1 [] = 1 := by
      cases he : e.1 with
      | nil => rw [he] at h1; exact absurd h1 (by decide)
      | cons a s => rfl
    have ho : oc e [] 0 = 1 := by rw [oc_k (by omega), hk]
    simp [fi, ho]
theorem sk_F (es : List en_T) (k : ke_T) (m : Int32) : sk_v es k m false = fi es k m := by unfold sk_v; rw [Bool.false_and]; rfl
theorem at_L {L : List no_T} {es : List en_T} {v : Nat} (hm : L.map (fun y => y.2.2) = es) : (L[v]? = none ∧ es.length ≤ v) ∨ ∃ y, L[v]? = some y ∧ y ∈ L ∧ es[v]? = some y.2.2 ∧ v < es.length := by
  subst hm
  cases h : L[v]? with
  | none => exact Or.inl ⟨rfl, by rw [List.length_map]; exact List.getElem?_eq_none_iff.mp h⟩
  | some y => exact Or.inr ⟨y, rfl, List.mem_of_getElem? h, by rw [List.getElem?_map, h]; rfl, by rw [List.length_map]; exact (List.getElem?_eq_some_iff.mp h).1⟩
section MT3
variable {l : Launch} {G : gv_T}
set_option maxHeartbeats 8000000 in
set_option maxRecDepth 100000 in
theorem k_seek (hl : l.stackTraces = false) : K_seek l G := by
  intro M B x σ a0 bb A hB
  refine ct_of hl (by decide +kernel) (Nat.le_of_ble_eq_true rfl) ?_
  intro p e s m args below meth c F hr hnm
  obtain ⟨ta, tt, root, L, tf, h, C⟩ := cl_open A
  have hlen := cl_len C
  have C0 := C
  obtain ⟨hx, hta, htt, ht, hmap, hsr, nd, hL, ⟨zx, zta, ztt⟩, ⟨bx, bta, btt⟩, hT, hbt, hok⟩ := C
  have ok0 := hok
  obtain ⟨ok1, ok2, ok3, ok4, ok5⟩ := hok
  have hh := tr_h ht (by omega)
  have hk40 := ky40 C0
  have hxta : ta ≠ x := fun z => by rw [z, hx] at hta; cases hta
  refine j_aload_n F d_MT_seek_0 rfl rfl ?_
  refine j_get F hx rfl in_MT 1 (by decide) wf_MT_13 rfl d_MT_seek_1 ?_
  refine j_bipush F (v := 40) d_MT_seek_4 (by decide) ?_
  refine j_icmp_le F (tgt := 17) d_MT_seek_6 (by decide) (fun hc => ?_) (fun hc => ?_)
  · skip
    have hk : σ.1.length ≤ 40 := (nI_leI (b := 40) (by omega) (by decide)).mp hc
    have hs : sp_seek a0 bb σ = go_to σ.2.1 [] 2 (sk_v σ.2.1 σ.1 a0 bb) true := if_neg (by omega)
    refine j_aload_n F d_MT_seek_17 rfl rfl ?_
    refine j_aload_n F d_MT_seek_18 rfl rfl ?_
    refine j_get F hx rfl in_MT 2 (by decide) wf_MT_20 rfl d_MT_seek_19 ?_
    refine j_aload_n F d_MT_seek_22 rfl rfl ?_
    refine j_callV F 0 (c_MT_takeTape hl hx zx hta hbt hT hk) hx rfl wl_MT_42 wim_MT_takeTape wse_MT_takeTape wi_MT wco_MT_takeTape (by decide +kernel) (by decide) rfl rfl (Nat.le_of_ble_eq_true rfl) (by decide) (by decide) d_MT_seek_23 (fun E M1 hx => hx.elim) (fun r M1 hp => ?_)
    obtain ⟨kb, rfl, zk, nk, hk1, hx1, hf1⟩ := hp
    have C1 : cl_C G M1 B x ([], σ.2) ta tt root L tf h := cl_reC C0 hx1 ((hf1 ta (fun z => by rw [z, nk] at hta; cases hta) hxta).trans hta) (fun q w y1 y2 y3 => (hf1 q (fun z => by rw [z, nk] at y3; cases y3) y1).trans y3) rfl (tp_nil _) hbt ⟨Nat.zero_le _, fun _ h => (by cases h), ok3, ok4, ok5⟩
    have fB : ∀ q, B q → M1 q = M q := fun q hq => hf1 q (fun z => by obtain ⟨w, hw⟩ := hB q hq; rw [z, nk] at hw; cases hw) (fun z => bx (by rw [← z]; exact hq))
    refine j_iload_n F d_MT_seek_26 rfl rfl ?_
    refine j_iload_n F d_MT_seek_27 rfl rfl ?_
    refine j_callV F 3 (c_TR_firstFrom hl C1.2.2.1 C1.2.2.2.1 (by omega) (fun y hy => by have := hk40 y hy; omega) (by rw [hmap]; exact hsr) (Or.inl hk1) (by omega) (mm := a0) (bb := bb)) C1.2.2.1 rfl wl_MT_46 wim_TR_firstFrom wse_TR_firstFrom wi_TR wco_TR_firstFrom (by decide +kernel) (by decide) rfl rfl (Nat.le_of_ble_eq_true rfl) (by decide) (by decide) d_MT_seek_28 (fun E M1 hx => hx.elim) (fun r M9 hp => ?_)
    obtain ⟨rfl, rfl⟩ := hp
    rw [hmap]
    rcases at_L (v := sk_v σ.2.1 σ.1 a0 bb) hmap with ⟨hv0, hv1⟩ | ⟨y, hv0, hy, hv1, hv2⟩
    · skip
      rw [hv0]
      have e0 : sp_seek a0 bb σ = (2, 0, ([], σ.2.1, none)) := hs.trans (go_no (Or.inl hv1))
      rw [e0]
      refine j_callV F 1 (c_MT_goTo0 hl hx1 zx) hx1 rfl wl_MT_82 wim_MT_goTo wse_MT_goTo wi_MT wco_MT_goTo (by decide +kernel) (by decide) rfl rfl (Nat.le_of_ble_eq_true rfl) (by decide) (by decide) d_MT_seek_31 (fun E M2 hx2 => ?_) (fun r M2 hp => hp.elim)
      obtain ⟨rfl, hx2, hf2⟩ := hx2
      exact j_out F rfl (by decide) (by decide) ⟨⟨1, rfl, rfl⟩, cl_shut (cl_x C1 (σ1 := ([], σ.2.1, none)) hx2 (fun q w y1 y3 => (hf2 q y1).trans y3) rfl (Or.inl rfl) (fun c hc => by cases hc)), fun q hq => (hf2 q (fun z => bx (by rw [← z]; exact hq))).trans (fB q hq)⟩
    · skip
      rw [hv0]
      have e0 : sp_seek a0 bb σ = (0, y.2.2.2.2.1, ([], σ.2.1, some (sk_v σ.2.1 σ.1 a0 bb))) := hs.trans (go_ok hv1)
      rw [e0]
      obtain ⟨⟨ht9, l9, r9, hv9⟩, -⟩ := tr_no _ C1.2.2.2.1 y hy
      refine j_callV F 1 (c_MT_goTo1 hl hx1 zx hv9) hx1 rfl wl_MT_82 wim_MT_goTo wse_MT_goTo wi_MT wco_MT_goTo (by decide +kernel) (by decide) rfl rfl (Nat.le_of_ble_eq_true rfl) (by decide) (by decide) d_MT_seek_31 (fun E M1 hx => hx.elim) (fun r M2 hp => ?_)
      obtain ⟨rfl, hx2, hf2⟩ := hp
      exact j_iret F hr (by decide) (by decide) ⟨rfl, rfl, cl_shut (cl_x C1 (σ1 := ([], σ.2.1, some (sk_v σ.2.1 σ.1 a0 bb))) (by rw [Option.bind_some, hv0]; exact hx2) (fun q w y1 y3 => (hf2 q y1).trans y3) rfl (Or.inl rfl) (fun c hc => by cases hc; exact hv2)), fun q hq => (hf2 q (fun z => bx (by rw [← z]; exact hq))).trans (fB q hq)⟩ d_MT_seek_34
  · skip
    have hk : 40 < σ.1.length := Nat.not_le.mp (fun z => hc ((nI_leI (b := 40) (by omega) (by decide)).mpr z))
    have e0 : sp_seek a0 bb σ = (1, 0, σ) := if_pos hk
    rw [e0]
    exact j_throw F (names := ["java/lang/RuntimeException", "java/lang/Exception"]) (by decide +kernel) (by decide +kernel) wc_MT_35 wi_IA w3_IA w4_IA (jf_sx F).2.2.2.2.2.2.2.1 wg_IA_35 rfl (by decide) (Nat.le_of_ble_eq_true rfl) (by decide) (by decide) (⟨⟨0, rfl, rfl⟩, A, fun _ _ => rfl⟩) d_MT_seek_9 d_MT_seek_12 d_MT_seek_13 d_MT_seek_16
set_option maxHeartbeats 8000000 in
set_option maxRecDepth 100000 in
theorem k_find (hl : l.stackTraces = false) : K_find l G := by
  intro M B x σ a0 A hB
  refine ct_of hl (by decide +kernel) (Nat.le_of_ble_eq_true rfl) ?_
  intro p e s m args below meth c F hr hnm
  obtain ⟨ta, tt, root, L, tf, h, C⟩ := cl_open A
  have hlen := cl_len C
  have C0 := C
  obtain ⟨hx, hta, htt, ht, hmap, hsr, nd, hL, ⟨zx, zta, ztt⟩, ⟨bx, bta, btt⟩, hT, hbt, hok⟩ := C
  have ok0 := hok
  obtain ⟨ok1, ok2, ok3, ok4, ok5⟩ := hok
  have hh := tr_h ht (by omega)
  have hk40 := ky40 C0
  have hxta : ta ≠ x := fun z => by rw [z, hx] at hta; cases hta
  refine j_aload_n F d_MT_find_0 rfl rfl ?_
  refine j_callV F 0 (c_MT_tapeIsKey hl hx ok1) hx rfl wl_MT_38 wim_MT_tapeIsKey wse_MT_tapeIsKey wi_MT wco_MT_tapeIsKey (by decide +kernel) (by decide) rfl rfl (Nat.le_of_ble_eq_true rfl) (by decide) (by decide) d_MT_find_1 (fun E M1 hx => hx.elim) (fun r M1 hp => ?_)
  obtain ⟨rfl, rfl⟩ := hp
  refine j_if_ne F (tgt := 15) d_MT_find_4 (by decide) (fun hc => ?_) (fun hc => ?_)
  · skip
    have hk : 1 ≤ σ.1.length ∧ σ.1.length ≤ 40 := by
      by_cases z : 1 ≤ σ.1.length ∧ σ.1.length ≤ 40
      · exact z
      · rw [if_neg z] at hc; exact absurd rfl hc
    have hs : sp_find a0 σ = go_to σ.2.1 [] 2 (fi σ.2.1 σ.1 a0) (of_key σ.2.1 σ.1 (fi σ.2.1 σ.1 a0)) := if_neg (by omega)
    refine j_aload_n F d_MT_find_15 rfl rfl ?_
    refine j_callV F 0 (c_MT_takeTape hl hx zx hta hbt hT hk.2) hx rfl wl_MT_42 wim_MT_takeTape wse_MT_takeTape wi_MT wco_MT_takeTape (by decide +kernel) (by decide) rfl rfl (Nat.le_of_ble_eq_true rfl) (by decide) (by decide) d_MT_find_16 (fun E M1 hx => hx.elim) (fun r M1 hp => ?_)
    obtain ⟨kb, rfl, zk, nk, hk1, hx1, hf1⟩ := hp
    have C1 : cl_C G M1 B x ([], σ.2) ta tt root L tf h := cl_reC C0 hx1 ((hf1 ta (fun z => by rw [z, nk] at hta; cases hta) hxta).trans hta) (fun q w y1 y2 y3 => (hf1 q (fun z => by rw [z, nk] at y3; cases y3) y1).trans y3) rfl (tp_nil _) hbt ⟨Nat.zero_le _, fun _ h => (by cases h), ok3, ok4, ok5⟩
    have fB : ∀ q, B q → M1 q = M q := fun q hq => hf1 q (fun z => by obtain ⟨w, hw⟩ := hB q hq; rw [z, nk] at hw; cases hw) (fun z => bx (by rw [← z]; exact hq))
    refine j_astore_n F (lv1 := [(2, _), (0, _), (1, _)]) d_MT_find_19 rfl (by decide) rfl ?_
    refine j_aload_n F d_MT_find_20 rfl rfl ?_
    refine j_get F C1.1 rfl in_MT 2 (by decide) wf_MT_20 rfl d_MT_find_21 ?_
    refine j_aload_n F d_MT_find_24 rfl rfl ?_
    refine j_iload_n F d_MT_find_25 rfl rfl ?_
    refine j_iconst F (v := 0) d_MT_find_26 (by decide) ?_
    refine j_callV F 3 (c_TR_firstFrom hl C1.2.2.1 C1.2.2.2.1 (by omega) (fun y hy => by have := hk40 y hy; omega) (by rw [hmap]; exact hsr) (Or.inl hk1) (by omega) (mm := a0) (bb := false)) C1.2.2.1 rfl wl_MT_46 wim_TR_firstFrom wse_TR_firstFrom wi_TR wco_TR_firstFrom (by decide +kernel) (by decide) rfl rfl (Nat.le_of_ble_eq_true rfl) (by decide) (by decide) d_MT_find_27 (fun E M1 hx => hx.elim) (fun r M9 hp => ?_)
    obtain ⟨rfl, rfl⟩ := hp
    rw [hmap, sk_F]
    refine j_astore_nq F (lv1 := [(3, _), (2, _), (0, _), (1, _)]) d_MT_find_30 rfl (by decide) rfl ?_
    refine j_aload_nq F d_MT_find_31 rfl rfl ?_
    rcases at_L (v := fi σ.2.1 σ.1 a0) hmap with ⟨hv0, hv1⟩ | ⟨y, hv0, hy, hv1, hv2⟩
    · skip
      rw [hv0]
      refine j_ifnull F (tgt := 50) d_MT_find_32 (by decide) (fun _ => ?_) (fun z hz => by cases hz)
      have e0 : sp_find a0 σ = (2, 0, ([], σ.2.1, none)) := hs.trans (go_no (Or.inl hv1))
      rw [e0]
      refine j_iconst F (v := 0) d_MT_find_50 (by decide) ?_
      refine j_istoreC F (lv1 := [(4, _), (3, _), (2, _), (0, _), (1, _)]) d_MT_find_51 (by decide) (by simp [rf_cat, ca_r, ca_i, ca_n]) rfl ?_
      refine j_aload_n F d_MT_find_53 rfl rfl ?_
      refine j_iload F d_MT_find_54 rfl ?_
      refine j_if_eq F (tgt := 63) d_MT_find_56 (by decide) (fun _ => ?_) (fun hq => absurd rfl hq)
      refine j_null F d_MT_find_63 ?_
      refine j_callV F 1 (c_MT_goTo0 hl hx1 zx) hx1 rfl wl_MT_82 wim_MT_goTo wse_MT_goTo wi_MT wco_MT_goTo (by decide +kernel) (by decide) rfl rfl (Nat.le_of_ble_eq_true rfl) (by decide) (by decide) d_MT_find_64 (fun E M2 hx2 => ?_) (fun r M2 hp => hp.elim)
      obtain ⟨rfl, hx2, hf2⟩ := hx2
      exact j_out F rfl (by decide) (by decide) ⟨⟨1, rfl, rfl⟩, cl_shut (cl_x C1 (σ1 := ([], σ.2.1, none)) hx2 (fun q w y1 y3 => (hf2 q y1).trans y3) rfl (Or.inl rfl) (fun c hc => by cases hc)), fun q hq => (hf2 q (fun z => bx (by rw [← z]; exact hq))).trans (fB q hq)⟩
    · skip
      rw [hv0]
      obtain ⟨⟨ht9, l9, r9, hv9⟩, hk9⟩ := tr_no _ C1.2.2.2.1 y hy
      have hy40 := hk40 y hy
      refine j_ifnull F (r := some y.1) (tgt := 50) d_MT_find_32 (by decide) (fun hz => by cases hz) (fun z hz => ?_)
      refine j_aload_n F d_MT_find_35 rfl rfl ?_
      refine j_aload_n F d_MT_find_36 rfl rfl ?_
      refine j_get F hv9 rfl in_VE 0 (by decide) wf_MT_75 rfl d_MT_find_37 ?_
      refine j_callS F 2 (c_VE_okeys hl (Or.inl hk1) (Or.inl hk9) (by omega) (by omega)) wl_MT_78 wst_VE_orderOfKeys wi_VE wco_VE_orderOfKeys (by decide +kernel) (by decide) rfl rfl (Nat.le_of_ble_eq_true rfl) (by decide) (by decide) d_MT_find_40 (fun E M1 hx => hx.elim) (fun r M9 hp => ?_)
      obtain ⟨rfl, d, rfl, hd1, hd2⟩ := hp
      have hneg := kc_neg σ.1 y.2.2.1
      refine j_if_ne F (tgt := 50) d_MT_find_43 (by decide) (fun hq3 => ?_) (fun hq3 => ?_)
      · skip
        have e0 : sp_find a0 σ = (2, 0, ([], σ.2.1, none)) := hs.trans (go_no (Or.inr (by unfold of_key; rw [hv1]; simp; intro z; exact hq3 (hd2.mpr (by omega)))))
        rw [e0]
        refine j_iconst F (v := 0) d_MT_find_50 (by decide) ?_
        refine j_istore F (lv1 := [(4, _), (3, _), (2, _), (0, _), (1, _)]) d_MT_find_51 (by decide) rfl ?_
        refine j_aload_n F d_MT_find_53 rfl rfl ?_
        refine j_iload F d_MT_find_54 rfl ?_
        refine j_if_eq F (tgt := 63) d_MT_find_56 (by decide) (fun _ => ?_) (fun hq => absurd rfl hq)
        refine j_null F d_MT_find_63 ?_
        refine j_callV F 1 (c_MT_goTo0 hl hx1 zx) hx1 rfl wl_MT_82 wim_MT_goTo wse_MT_goTo wi_MT wco_MT_goTo (by decide +kernel) (by decide) rfl rfl (Nat.le_of_ble_eq_true rfl) (by decide) (by decide) d_MT_find_64 (fun E M2 hx2 => ?_) (fun r M2 hp => hp.elim)
        obtain ⟨rfl, hx2, hf2⟩ := hx2
        exact j_out F rfl (by decide) (by decide) ⟨⟨1, rfl, rfl⟩, cl_shut (cl_x C1 (σ1 := ([], σ.2.1, none)) hx2 (fun q w y1 y3 => (hf2 q y1).trans y3) rfl (Or.inl rfl) (fun c hc => by cases hc)), fun q hq => (hf2 q (fun z => bx (by rw [← z]; exact hq))).trans (fB q hq)⟩
      · skip
        have h0 := hd2.mp hq3
        have e0 : sp_find a0 σ = (0, y.2.2.2.2.1, ([], σ.2.1, some (fi σ.2.1 σ.1 a0))) := by
          have hof : of_key σ.2.1 σ.1 (fi σ.2.1 σ.1 a0) = true := by unfold of_key; rw [hv1]; simp; omega
          rw [hs, hof]
          exact go_ok hv1
        rw [e0]
        refine j_iconst F (v := 1) d_MT_find_46 (by decide) ?_
        refine j_goto F (tgt := 51) d_MT_find_47 (by decide) ?_
        refine j_istore F (lv1 := [(4, _), (3, _), (2, _), (0, _), (1, _)]) d_MT_find_51 (by decide) rfl ?_
        refine j_aload_n F d_MT_find_53 rfl rfl ?_
        refine j_iload F d_MT_find_54 rfl ?_
        refine j_if_eq F (tgt := 63) d_MT_find_56 (by decide) (fun hq => absurd hq (by decide)) (fun _ => ?_)
        refine j_aload_n F d_MT_find_59 rfl rfl ?_
        refine j_goto F (tgt := 64) d_MT_find_60 (by decide) ?_
        refine j_callV F 1 (c_MT_goTo1 hl hx1 zx hv9) hx1 rfl wl_MT_82 wim_MT_goTo wse_MT_goTo wi_MT wco_MT_goTo (by decide +kernel) (by decide) rfl rfl (Nat.le_of_ble_eq_true rfl) (by decide) (by decide) d_MT_find_64 (fun E M1 hx => hx.elim) (fun r M2 hp => ?_)
        obtain ⟨rfl, hx2, hf2⟩ := hp
        exact j_iret F hr (by decide) (by decide) ⟨rfl, rfl, cl_shut (cl_x C1 (σ1 := ([], σ.2.1, some (fi σ.2.1 σ.1 a0))) (by rw [Option.bind_some, hv0]; exact hx2) (fun q w y1 y3 => (hf2 q y1).trans y3) rfl (Or.inl rfl) (fun c hc => by cases hc; exact hv2)), fun q hq => (hf2 q (fun z => bx (by rw [← z]; exact hq))).trans (fB q hq)⟩ d_MT_find_67
  · skip
    have hk : ¬ (1 ≤ σ.1.length ∧ σ.1.length ≤ 40) := fun z => by
      rw [if_pos z] at hc
      exact absurd hc (by decide)
    have e0 : sp_find a0 σ = (1, 0, σ) := if_pos (by omega)
    rw [e0]
    exact j_throw F (names := ["java/lang/RuntimeException", "java/lang/Exception"]) (by decide +kernel) (by decide +kernel) wc_MT_35 wi_IA w3_IA w4_IA (jf_sx F).2.2.2.2.2.2.2.1 wg_IA_35 rfl (by decide) (Nat.le_of_ble_eq_true rfl) (by decide) (by decide) (⟨⟨0, rfl, rfl⟩, A, fun _ _ => rfl⟩) d_MT_find_7 d_MT_find_10 d_MT_find_11 d_MT_find_14
set_option maxHeartbeats 8000000 in
set_option maxRecDepth 100000 in
theorem k_next (hl : l.stackTraces = false) : K_next l G := by
  intro M B x σ  A hB
  refine ct_of hl (by decide +kernel) (Nat.le_of_ble_eq_true rfl) ?_
  intro p e s m args below meth c F hr hnm
  obtain ⟨ta, tt, root, L, tf, h, C⟩ := cl_open A
  have hlen := cl_len C
  have C0 := C
  obtain ⟨hx, hta, htt, ht, hmap, hsr, nd, hL, ⟨zx, zta, ztt⟩, ⟨bx, bta, btt⟩, hT, hbt, hok⟩ := C
  have ok0 := hok
  obtain ⟨ok1, ok2, ok3, ok4, ok5⟩ := hok
  have hh := tr_h ht (by omega)
  have hk40 := ky40 C0
  have hxta : ta ≠ x := fun z => by rw [z, hx] at hta; cases hta
  refine j_aload_n F d_MT_next_0 rfl rfl ?_
  refine j_aload_n F d_MT_next_1 rfl rfl ?_
  refine j_get F hx rfl in_MT 3 (by decide) wf_MT_24 rfl d_MT_next_2 ?_
  rcases cl_cur C0 with ⟨hn1, hn2, hn3⟩ | ⟨cc0, y0, hn1, hy1, hy2, hn2, hn3⟩
  · skip
    rw [hn2]
    have e0 : sp_next σ = (1, 0, (σ.1, σ.2.1, none)) := by unfold sp_next; rw [hn1]
    rw [e0]
    refine j_ifnonnull F (tgt := 12) d_MT_next_5 (by decide) (fun z hz => by cases hz) (fun hz => ?_)
    refine j_null F d_MT_next_8 ?_
    refine j_goto F (tgt := 34) d_MT_next_9 (by decide) ?_
    refine j_callV F 1 (c_MT_goTo0 hl hx zx) hx rfl wl_MT_82 wim_MT_goTo wse_MT_goTo wi_MT wco_MT_goTo (by decide +kernel) (by decide) rfl rfl (Nat.le_of_ble_eq_true rfl) (by decide) (by decide) d_MT_next_34 (fun E M2 hx2 => ?_) (fun r M2 hp => hp.elim)
    obtain ⟨rfl, hx2, hf2⟩ := hx2
    exact j_out F rfl (by decide) (by decide) ⟨⟨0, rfl, rfl⟩, cl_shut (cl_x C0 (σ1 := (σ.1, σ.2.1, none)) hx2 (fun q w y1 y3 => (hf2 q y1).trans y3) rfl (Or.inr rfl) (fun c hc => by cases hc)), fun q hq => hf2 q (fun z => bx (by rw [← z]; exact hq))⟩
  · skip
    have hxc := hx
    rw [hn2] at hxc ⊢
    have hs : sp_next σ = go_to σ.2.1 σ.1 1 (cc0 + 1) true := by unfold sp_next; rw [hn1]
    obtain ⟨⟨ht8, l8, r8, hv8⟩, hk8⟩ := tr_no _ ht y0 hy2
    have h408 := hk40 y0 hy2
    have hec : σ.2.1[cc0]? = some y0.2.2 := by rw [← hmap, List.getElem?_map, hy1]; rfl
    refine j_ifnonnull F (r := some y0.1) (tgt := 12) d_MT_next_5 (by decide) (fun z hz => ?_) (fun hz => by cases hz)
    refine j_aload_n F d_MT_next_12 rfl rfl ?_
    refine j_get F hxc rfl in_MT 2 (by decide) wf_MT_20 rfl d_MT_next_13 ?_
    refine j_aload_n F d_MT_next_16 rfl rfl ?_
    refine j_get F hxc rfl in_MT 3 (by decide) wf_MT_24 rfl d_MT_next_17 ?_
    refine j_get F hv8 rfl in_VE 0 (by decide) wf_MT_75 rfl d_MT_next_20 ?_
    refine j_aload_n F d_MT_next_23 rfl rfl ?_
    refine j_get F hxc rfl in_MT 3 (by decide) wf_MT_24 rfl d_MT_next_24 ?_
    refine j_get F hv8 rfl in_VE 1 (by decide) wf_MT_86 rfl d_MT_next_27 ?_
    refine j_iconst F (v := 1) d_MT_next_30 (by decide) ?_
    refine j_callV F 3 (c_TR_firstFrom hl htt ht (by omega) (fun y hy => by have := hk40 y hy; omega) (by rw [hmap]; exact hsr) (Or.inl hk8) (by omega) (mm := y0.2.2.2.1) (bb := true)) htt rfl wl_MT_46 wim_TR_firstFrom wse_TR_firstFrom wi_TR wco_TR_firstFrom (by decide +kernel) (by decide) rfl rfl (Nat.le_of_ble_eq_true rfl) (by decide) (by decide) d_MT_next_31 (fun E M1 hx => hx.elim) (fun r M9 hp => ?_)
    obtain ⟨rfl, rfl⟩ := hp
    rw [hmap, sk_nx hsr hec]
    rcases at_L (v := cc0 + 1) hmap with ⟨hv0, hv1⟩ | ⟨y, hv0, hy, hv1, hv2⟩
    · skip
      rw [hv0]
      have e0 : sp_next σ = (1, 0, (σ.1, σ.2.1, none)) := hs.trans (go_no (Or.inl hv1))
      rw [e0]
      refine j_callV F 1 (c_MT_goTo0 hl hx zx) hx rfl wl_MT_82 wim_MT_goTo wse_MT_goTo wi_MT wco_MT_goTo (by decide +kernel) (by decide) rfl rfl (Nat.le_of_ble_eq_true rfl) (by decide) (by decide) d_MT_next_34 (fun E M2 hx2 => ?_) (fun r M2 hp => hp.elim)
      obtain ⟨rfl, hx2, hf2⟩ := hx2
      exact j_out F rfl (by decide) (by decide) ⟨⟨0, rfl, rfl⟩, cl_shut (cl_x C0 (σ1 := (σ.1, σ.2.1, none)) hx2 (fun q w y1 y3 => (hf2 q y1).trans y3) rfl (Or.inr rfl) (fun c hc => by cases hc)), fun q hq => (hf2 q (fun z => bx (by rw [← z]; exact hq))).trans ((fun _ _ => rfl : ∀ q, B q → M q = M q) q hq)⟩
    · skip
      rw [hv0]
      have e0 : sp_next σ = (0, y.2.2.2.2.1, (σ.1, σ.2.1, some (cc0 + 1))) := hs.trans (go_ok hv1)
      rw [e0]
      obtain ⟨⟨ht9, l9, r9, hv9⟩, -⟩ := tr_no _ C0.2.2.2.1 y hy
      refine j_callV F 1 (c_MT_goTo1 hl hx zx hv9) hx rfl wl_MT_82 wim_MT_goTo wse_MT_goTo wi_MT wco_MT_goTo (by decide +kernel) (by decide) rfl rfl (Nat.le_of_ble_eq_true rfl) (by decide) (by decide) d_MT_next_34 (fun E M1 hx => hx.elim) (fun r M2 hp => ?_)
      obtain ⟨rfl, hx2, hf2⟩ := hp
      exact j_iret F hr (by decide) (by decide) ⟨rfl, rfl, cl_shut (cl_x C0 (σ1 := (σ.1, σ.2.1, some (cc0 + 1))) (by rw [Option.bind_some, hv0]; exact hx2) (fun q w y1 y3 => (hf2 q y1).trans y3) rfl (Or.inr rfl) (fun c hc => by cases hc; exact hv2)), fun q hq => (hf2 q (fun z => bx (by rw [← z]; exact hq))).trans ((fun _ _ => rfl : ∀ q, B q → M q = M q) q hq)⟩ d_MT_next_37
set_option maxHeartbeats 8000000 in
set_option maxRecDepth 100000 in
theorem k_first (hl : l.stackTraces = false) : K_first l G := by
  intro M B x σ  A hB
  refine ct_of hl (by decide +kernel) (Nat.le_of_ble_eq_true rfl) ?_
  intro p e s m args below meth c F hr hnm
  obtain ⟨ta, tt, root, L, tf, h, C⟩ := cl_open A
  have hlen := cl_len C
  have C0 := C
  obtain ⟨hx, hta, htt, ht, hmap, hsr, nd, hL, ⟨zx, zta, ztt⟩, ⟨bx, bta, btt⟩, hT, hbt, hok⟩ := C
  have ok0 := hok
  obtain ⟨ok1, ok2, ok3, ok4, ok5⟩ := hok
  have hh := tr_h ht (by omega)
  have hk40 := ky40 C0
  have hxta : ta ≠ x := fun z => by rw [z, hx] at hta; cases hta
  refine j_aload_n F d_MT_first_0 rfl rfl ?_
  refine j_aload_n F d_MT_first_1 rfl rfl ?_
  refine j_get F hx rfl in_MT 2 (by decide) wf_MT_20 rfl d_MT_first_2 ?_
  refine j_gets F wf_MT_89 d_MT_first_5 ?_
  refine j_iconst F (v := 0) d_MT_first_8 (by decide) ?_
  refine j_iconst F (v := 0) d_MT_first_9 (by decide) ?_
  refine j_callV F 3 (c_TR_firstFrom hl htt ht (by omega) (fun y hy => by have := hk40 y hy; omega) (by rw [hmap]; exact hsr) (k := []) (Or.inr ⟨rfl, rfl⟩) (by decide) (mm := 0) (bb := false)) htt rfl wl_MT_46 wim_TR_firstFrom wse_TR_firstFrom wi_TR wco_TR_firstFrom (by decide +kernel) (by decide) rfl rfl (Nat.le_of_ble_eq_true rfl) (by decide) (by decide) d_MT_first_10 (fun E M1 hx => hx.elim) (fun r M9 hp => ?_)
  obtain ⟨rfl, rfl⟩ := hp
  rw [hmap, sk_F, fi_0 (fun e he => (ok4 e he).1)]
  rcases at_L (v := 0) hmap with ⟨hv0, hv1⟩ | ⟨y, hv0, hy, hv1, hv2⟩
  · skip
    rw [hv0]
    have e0 : sp_first σ = (1, 0, (σ.1, σ.2.1, none)) := go_no (Or.inl hv1)
    rw [e0]
    refine j_callV F 1 (c_MT_goTo0 hl hx zx) hx rfl wl_MT_82 wim_MT_goTo wse_MT_goTo wi_MT wco_MT_goTo (by decide +kernel) (by decide) rfl rfl (Nat.le_of_ble_eq_true rfl) (by decide) (by decide) d_MT_first_13 (fun E M2 hx2 => ?_) (fun r M2 hp => hp.elim)
    obtain ⟨rfl, hx2, hf2⟩ := hx2
    exact j_out F rfl (by decide) (by decide) ⟨⟨0, rfl, rfl⟩, cl_shut (cl_x C0 (σ1 := (σ.1, σ.2.1, none)) hx2 (fun q w y1 y3 => (hf2 q y1).trans y3) rfl (Or.inr rfl) (fun c hc => by cases hc)), fun q hq => (hf2 q (fun z => bx (by rw [← z]; exact hq))).trans ((fun _ _ => rfl : ∀ q, B q → M q = M q) q hq)⟩
  · skip
    rw [hv0]
    have e0 : sp_first σ = (0, y.2.2.2.2.1, (σ.1, σ.2.1, some 0)) := go_ok hv1
    rw [e0]
    obtain ⟨⟨ht9, l9, r9, hv9⟩, -⟩ := tr_no _ C0.2.2.2.1 y hy
    refine j_callV F 1 (c_MT_goTo1 hl hx zx hv9) hx rfl wl_MT_82 wim_MT_goTo wse_MT_goTo wi_MT wco_MT_goTo (by decide +kernel) (by decide) rfl rfl (Nat.le_of_ble_eq_true rfl) (by decide) (by decide) d_MT_first_13 (fun E M1 hx => hx.elim) (fun r M2 hp => ?_)
    obtain ⟨rfl, hx2, hf2⟩ := hp
    exact j_iret F hr (by decide) (by decide) ⟨rfl, rfl, cl_shut (cl_x C0 (σ1 := (σ.1, σ.2.1, some (0))) (by rw [Option.bind_some, hv0]; exact hx2) (fun q w y1 y3 => (hf2 q y1).trans y3) rfl (Or.inr rfl) (fun c hc => by cases hc; exact hv2)), fun q hq => (hf2 q (fun z => bx (by rw [← z]; exact hq))).trans ((fun _ _ => rfl : ∀ q, B q → M q = M q) q hq)⟩ d_MT_first_16
end MT3
end
section
/-- one version's place and size -/
def mod_L (a : Nat) (p z : Int32) (w : no_T) : no_T := if w.1 = a then (w.1, w.2.1, (w.2.2.1, w.2.2.2.1, p, z)) else w
theorem mod_1 (a : Nat) (p z : Int32) (w : no_T) : (mod_L a p z w).1 = w.1 := by unfold mod_L; split <;> rfl
theorem mod_2 (a : Nat) (p z : Int32) (w : no_T) : (mod_L a p z w).2.1 = w.2.1 := by unfold mod_L; split <;> rfl
theorem tr_mod {G : gv_T} {M M1 : mp_T} {a : Nat} {p z : Int32} (hf : ∀ q, q ≠ a → M1 q = M q) (ha : ∀ ka e ht l r, M a = some (vE ka e ht l r) → M1 a = some (vE ka (e.1, e.2.1, p, z) ht l r)) (d : Nat) : ∀ {r : Option Nat} {L : List no_T} {h : Nat}, (∀ q w, M q = some (.inl w) → M1 q = some (.inl w)) → tr G M d r L h → tr G M1 d r (L.map (mod_L a p z)) h := by
  induction d with
  | zero =>
    intro r L h hk ht
    cases r with
    | none => exact ⟨by rw [ht.1]; rfl, ht.2⟩
    | some b => exact ht
  | succ d ih =>
    intro r L h hk ht
    cases r with
    | none => exact ⟨by rw [ht.1]; rfl, ht.2⟩
    | some b =>
      obtain ⟨ka, e, l, r, Ll, Lr, hl, hr, h1, ⟨kf, h2, h3⟩, h4, h5, rfl, h6⟩ := ht
      by_cases hb : b = a
      · subst hb
        exact ⟨ka, (e.1, e.2.1, p, z), l, r, Ll.map (mod_L b p z), Lr.map (mod_L b p z), hl, hr, ha _ _ _ _ _ h1, ⟨kf, hk _ _ h2, h3⟩, ih hk h4, ih hk h5, by rw [List.map_append, List.map_cons]; simp [mod_L], h6⟩
      · exact ⟨ka, e, l, r, Ll.map (mod_L a p z), Lr.map (mod_L a p z), hl, hr, (hf b hb).trans h1, ⟨kf, hk _ _ h2, h3⟩, ih hk h4, ih hk h5, by rw [List.map_append, List.map_cons]; simp [mod_L, hb], h6⟩
theorem mod_map {L : List no_T} {v : Nat} {y : no_T} (p z : Int32) (nd : (L.map (fun y => y.1)).Nodup) (hy : L[v]? = some y) : (L.map (mod_L y.1 p z)).map (fun y => y.2.2) = pu_set (L.map (fun y => y.2.2)) v p z := by
  apply List.ext_getElem?
  intro i
  rw [set_at, List.getElem?_map, List.getElem?_map, List.getElem?_map]
  cases hi : L[i]? with
  | none => split <;> rfl
  | some w =>
    have hil := (List.getElem?_eq_some_iff.mp hi).1
    have hvl := (List.getElem?_eq_some_iff.mp hy).1
    by_cases hvi : v = i
    · subst hvi
      rw [hi] at hy
      cases hy
      rw [if_pos rfl]
      simp [mod_L]
    · rw [if_neg hvi]
      have hne : w.1 ≠ y.1 := fun z => by
        have e1 := (List.getElem?_eq_some_iff.mp hi).2
        have e2 := (List.getElem?_eq_some_iff.mp hy).2
        have h9 := List.pairwise_iff_getElem.mp nd
        rcases Nat.lt_or_gt_of_ne hvi with g | g
        · exact h9 v i (by rw [List.length_map]; exact hvl) (by rw [List.length_map]; exact hil) g (by rw [List.getElem_map, List.getElem_map, e1, e2]; exact z.symm)
        · exact h9 i v (by rw [List.length_map]; exact hil) (by rw [List.length_map]; exact hvl) g (by rw [List.getElem_map, List.getElem_map, e1, e2]; exact z)
      simp [mod_L, hne]
theorem oc_same {a b : en_T} {k : ke_T} {m : Int32} (h1 : a.1 = b.1) (h2 : a.2.1 = b.2.1) : oc a k m = oc b k m := by unfold oc; rw [h1, h2]
theorem srt_set {es : List en_T} (v : Nat) (p z : Int32) (h : srt es) : srt (pu_set es v p z) := by
  unfold srt at h ⊢
  have key : ∀ e ∈ [()], True := fun _ _ => trivial
  rw [List.pairwise_iff_getElem] at h ⊢
  intro i j hi hj hij
  rw [set_len] at hi hj
  have hs : ∀ q (hq : q < es.length) (hq2 : q < (pu_set es v p z).length), (pu_set es v p z)[q].1 = es[q].1 ∧ (pu_set es v p z)[q].2.1 = es[q].2.1 := by
    intro q hq hq2
    have h9 := set_at (es := es) (v := v) (i := q) (p := p) (z := z)
    rw [List.getElem?_eq_getElem hq2, List.getElem?_eq_getElem hq] at h9
    split at h9
    · have := Option.some.inj h9
      rw [this]
      exact ⟨rfl, rfl⟩
    · have := Option.some.inj h9
      rw [this]
      exact ⟨rfl, rfl⟩
  obtain ⟨a1, a2⟩ := hs i hi (by rw [set_len]; exact hi)
  obtain ⟨b1, b2⟩ := hs j hj (by rw [set_len]; exact hj)
  rw [oc_same a1 a2, b1, b2]
  exact h i j hi hj hij
/-- what isn't before, is behind -/
theorem srt_gt {es : List en_T} {k : ke_T} {m : Int32} (hs : srt es) (hh : ¬ hit es k m = true) {j : Nat} {e : en_T} (hj : fi es k m ≤ j) (he : es[j]? = some e) : 0 < oc e k m := by
  have hjl := (List.getElem?_eq_some_iff.mp he).1
  have hvl : fi es k m < es.length := by omega
  have hv := List.getElem?_eq_getElem hvl
  have h1 := fi_at hv
  have h2 : oc es[fi es k m] k m ≠ 0 := fun z => hh ((hit_of hv).mpr z)
  by_cases hjv : j = fi es k m
  · subst hjv
    rw [hv] at he
    cases he
    omega
  · apply Int.not_le.mp
    intro z
    have h3 := (List.pairwise_iff_getElem.mp hs) (fi es k m) j hvl hjl (by omega)
    rw [List.getElem?_eq_getElem hjl] at he
    cases he
    exact h1 (oc_lt h3 z)
theorem hit_0 {es : List en_T} {k : ke_T} {m : Int32} (hs : srt es) (hh : ¬ hit es k m = true) : ∀ e ∈ es, oc e k m ≠ 0 := by
  intro e he
  obtain ⟨j, hj⟩ := List.getElem?_of_mem he
  by_cases hjv : fi es k m ≤ j
  · have := srt_gt hs hh hjv hj
    omega
  · have := fi_lt (Nat.not_le.mp hjv) hj
    omega
theorem srt_ins {es : List en_T} {x : en_T} (hs : srt es) (hh : ¬ hit es x.1 x.2.1 = true) : srt (pu_ins es (fi es x.1 x.2.1) x) := by
  have hs0 := hs
  unfold srt pu_ins
  have hsp : (es.take (fi es x.1 x.2.1) ++ es.drop (fi es x.1 x.2.1)).Pairwise (fun a b => oc a b.1 b.2.1 < 0) := by rw [List.take_append_drop]; exact hs
  rw [List.pairwise_append] at hsp
  rw [List.pairwise_append, List.pairwise_cons]
  refine ⟨hsp.1, ⟨fun b hb => ?_, hsp.2.1⟩, fun a ha b hb => ?_⟩
  · obtain ⟨j, hj⟩ := List.getElem?_of_mem hb
    rw [List.getElem?_drop] at hj
    exact (oc_anti x b).1.mpr (srt_gt hs0 hh (Nat.le_add_right _ _) hj)
  · rcases List.mem_cons.mp hb with z | z
    · subst z
      obtain ⟨j, hj⟩ := List.getElem?_of_mem ha
      rw [List.getElem?_take] at hj
      split at hj
      · rename_i hjl
        exact fi_lt hjl hj
      · cases hj
    · exact hsp.2.2 a ha b z
theorem in_cur {L : List no_T} {v : Nat} (y : no_T) (hv : v ≤ L.length) (c : Option Nat) : (pu_cur v c).bind (fun i => ((in_L L v y)[i]?).map (fun w => w.1)) = c.bind (fun i => (L[i]?).map (fun w => w.1)) := by
  cases c with
  | none => rfl
  | some i =>
    simp only [pu_cur, Option.map_some, Option.bind_some]
    have hil : ∀ j, j < v → (in_L L v y)[j]? = L[j]? := fun j hj => by
      unfold in_L
      rw [List.getElem?_append_left (by rw [List.length_take]; omega), List.getElem?_take, if_pos hj]
    have hig : ∀ j, v ≤ j → (in_L L v y)[j + 1]? = L[j]? := fun j hj => by
      unfold in_L
      rw [List.getElem?_append_right (by rw [List.length_take]; omega), List.length_take, Nat.min_eq_left hv, show j + 1 - v = (j - v) + 1 by omega, List.getElem?_cons_succ, List.getElem?_drop]
      congr 1
      omega
    by_cases hvi : v ≤ i
    · rw [if_pos hvi, hig i hvi]
    · rw [if_neg hvi, hil i (by omega)]
section MT4
variable {l : Launch} {G : gv_T}
set_option maxHeartbeats 16000000 in
set_option maxRecDepth 100000 in
theorem k_put (hl : l.stackTraces = false) : K_put l G := by
  intro M B x σ a0 a1 a2 A hB
  refine ct_of hl (by decide +kernel) (Nat.le_of_ble_eq_true rfl) ?_
  intro p e s m args below meth c F hr hnm
  obtain ⟨ta, tt, root, L, tf, h, C⟩ := cl_open A
  have hlen := cl_len C
  have C0 := C
  obtain ⟨hx, hta, htt, ht, hmap, hsr, nd, hL, ⟨zx, zta, ztt⟩, ⟨bx, bta, btt⟩, hT, hbt, hok⟩ := C
  have ok0 := hok
  obtain ⟨ok1, ok2, ok3, ok4, ok5⟩ := hok
  have hh := tr_h ht (by omega)
  have hk40 := ky40 C0
  have hxta : ta ≠ x := fun z => by rw [z, hx] at hta; cases hta
  refine j_iload_n F d_MT_put_0 rfl rfl ?_
  refine j_if_lt F (tgt := 27) d_MT_put_1 (by decide) (fun h1 => ?_) (fun h1 => ?_)
  · skip
    have e0 : sp_put a0 a1 a2 σ = (1, 0, σ) := if_pos ((pu_badE _ _ _ _).mpr (Or.inl (h1)))
    rw [e0]
    exact j_throw F (names := ["java/lang/RuntimeException", "java/lang/Exception"]) (by decide +kernel) (by decide +kernel) wc_MT_35 wi_IA w3_IA w4_IA (jf_sx F).2.2.2.2.2.2.2.1 wg_IA_35 rfl (by decide) (Nat.le_of_ble_eq_true rfl) (by decide) (by decide) (⟨⟨0, rfl, rfl⟩, A, fun _ _ => rfl⟩) d_MT_put_27 d_MT_put_30 d_MT_put_31 d_MT_put_34
  · skip
    refine j_iload_n F d_MT_put_4 rfl rfl ?_
    refine j_iconst F (v := -1) d_MT_put_5 (by decide) ?_
    refine j_icmp_lt F (tgt := 27) d_MT_put_6 (by decide) (fun h2 => ?_) (fun h2 => ?_)
    · skip
      have e0 : sp_put a0 a1 a2 σ = (1, 0, σ) := if_pos ((pu_badE _ _ _ _).mpr (Or.inr (Or.inl (h2))))
      rw [e0]
      exact j_throw F (names := ["java/lang/RuntimeException", "java/lang/Exception"]) (by decide +kernel) (by decide +kernel) wc_MT_35 wi_IA w3_IA w4_IA (jf_sx F).2.2.2.2.2.2.2.1 wg_IA_35 rfl (by decide) (Nat.le_of_ble_eq_true rfl) (by decide) (by decide) (⟨⟨0, rfl, rfl⟩, A, fun _ _ => rfl⟩) d_MT_put_27 d_MT_put_30 d_MT_put_31 d_MT_put_34
    · skip
      refine j_iload_n F d_MT_put_9 rfl rfl ?_
      refine j_if_lt F (tgt := 27) d_MT_put_10 (by decide) (fun h3 => ?_) (fun h3 => ?_)
      · skip
        have e0 : sp_put a0 a1 a2 σ = (1, 0, σ) := if_pos ((pu_badE _ _ _ _).mpr (Or.inr (Or.inr (Or.inl (h3)))))
        rw [e0]
        exact j_throw F (names := ["java/lang/RuntimeException", "java/lang/Exception"]) (by decide +kernel) (by decide +kernel) wc_MT_35 wi_IA w3_IA w4_IA (jf_sx F).2.2.2.2.2.2.2.1 wg_IA_35 rfl (by decide) (Nat.le_of_ble_eq_true rfl) (by decide) (by decide) (⟨⟨0, rfl, rfl⟩, A, fun _ _ => rfl⟩) d_MT_put_27 d_MT_put_30 d_MT_put_31 d_MT_put_34
      · skip
        refine j_iload_n F d_MT_put_13 rfl rfl ?_
        refine j_sipush F (v := 1000) d_MT_put_14 (by decide) ?_
        refine j_icmp_gt F (tgt := 27) d_MT_put_17 (by decide) (fun h4 => ?_) (fun h4 => ?_)
        · skip
          have e0 : sp_put a0 a1 a2 σ = (1, 0, σ) := if_pos ((pu_badE _ _ _ _).mpr (Or.inr (Or.inr (Or.inr (Or.inl (h4))))))
          rw [e0]
          exact j_throw F (names := ["java/lang/RuntimeException", "java/lang/Exception"]) (by decide +kernel) (by decide +kernel) wc_MT_35 wi_IA w3_IA w4_IA (jf_sx F).2.2.2.2.2.2.2.1 wg_IA_35 rfl (by decide) (Nat.le_of_ble_eq_true rfl) (by decide) (by decide) (⟨⟨0, rfl, rfl⟩, A, fun _ _ => rfl⟩) d_MT_put_27 d_MT_put_30 d_MT_put_31 d_MT_put_34
        · skip
          refine j_aload_n F d_MT_put_20 rfl rfl ?_
          refine j_callV F 0 (c_MT_tapeIsKey hl hx ok1) hx rfl wl_MT_38 wim_MT_tapeIsKey wse_MT_tapeIsKey wi_MT wco_MT_tapeIsKey (by decide +kernel) (by decide) rfl rfl (Nat.le_of_ble_eq_true rfl) (by decide) (by decide) d_MT_put_21 (fun E M1 hx => hx.elim) (fun r M1 hp => ?_)
          obtain ⟨rfl, rfl⟩ := hp
          refine j_if_ne F (tgt := 35) d_MT_put_24 (by decide) (fun h5 => ?_) (fun h5 => ?_)
          · skip
            have hk : 1 ≤ σ.1.length ∧ σ.1.length ≤ 40 := by
              by_cases z : 1 ≤ σ.1.length ∧ σ.1.length ≤ 40
              · exact z
              · rw [if_neg z] at h5; exact absurd rfl h5
            have hnb : ¬ pu_bad a0 a1 a2 σ = true := fun z => by
              rcases (pu_badE _ _ _ _).mp z with z | z | z | z | z | z
              · exact h1 z
              · exact h2 z
              · exact h3 z
              · exact h4 z
              · omega
              · omega
            have hfl := fi_le σ.2.1 σ.1 a0
            refine j_aload_n F d_MT_put_35 rfl rfl ?_
            refine j_callV F 0 (c_MT_takeTape hl hx zx hta hbt hT hk.2) hx rfl wl_MT_42 wim_MT_takeTape wse_MT_takeTape wi_MT wco_MT_takeTape (by decide +kernel) (by decide) rfl rfl (Nat.le_of_ble_eq_true rfl) (by decide) (by decide) d_MT_put_36 (fun E M1 hx => hx.elim) (fun r M1 hp => ?_)
            obtain ⟨kb, rfl, zk, nk, hk1, hx1, hf1⟩ := hp
            have C1 : cl_C G M1 B x ([], σ.2) ta tt root L tf h := cl_reC C0 hx1 ((hf1 ta (fun z => by rw [z, nk] at hta; cases hta) hxta).trans hta) (fun q w y1 y2 y3 => (hf1 q (fun z => by rw [z, nk] at y3; cases y3) y1).trans y3) rfl (tp_nil _) hbt ⟨Nat.zero_le _, fun _ h => (by cases h), ok3, ok4, ok5⟩
            have fB : ∀ q, B q → M1 q = M q := fun q hq => hf1 q (fun z => by obtain ⟨w, hw⟩ := hB q hq; rw [z, nk] at hw; cases hw) (fun z => bx (by rw [← z]; exact hq))
            have nBk : ¬ B kb := fun z => by obtain ⟨w, hw⟩ := hB kb z; rw [nk] at hw; cases hw
            refine j_astore F (lv1 := [(4, _), (0, _), (1, _), (2, _), (3, _)]) d_MT_put_39 (by decide) rfl ?_
            refine j_aload_n F d_MT_put_41 rfl rfl ?_
            refine j_get F C1.1 rfl in_MT 2 (by decide) wf_MT_20 rfl d_MT_put_42 ?_
            refine j_aload F d_MT_put_45 rfl ?_
            refine j_iload_n F d_MT_put_47 rfl rfl ?_
            refine j_iconst F (v := 0) d_MT_put_48 (by decide) ?_
            refine j_callV F 3 (c_TR_firstFrom hl C1.2.2.1 C1.2.2.2.1 (by omega) (fun y hy => by have := hk40 y hy; omega) (by rw [hmap]; exact hsr) (Or.inl hk1) (by omega) (mm := a0) (bb := false)) C1.2.2.1 rfl wl_MT_46 wim_TR_firstFrom wse_TR_firstFrom wi_TR wco_TR_firstFrom (by decide +kernel) (by decide) rfl rfl (Nat.le_of_ble_eq_true rfl) (by decide) (by decide) d_MT_put_49 (fun E M1 hx => hx.elim) (fun r M9 hp => ?_)
            obtain ⟨rfl, rfl⟩ := hp
            rw [hmap, sk_F]
            refine j_astoreq F (lv1 := [(5, _), (4, _), (0, _), (1, _), (2, _), (3, _)]) d_MT_put_52 (by decide) rfl ?_
            refine j_cut (α := Unit) (fun _ => ¬ hit σ.2.1 σ.1 a0 = true) (fun _ => M1) (fun _ => 1) (fun _ => 40) (fun _ => [(5, va_rf ((L[fi σ.2.1 σ.1 a0]?).map (fun y => y.1))), (4, .ref kb), (0, .ref x), (1, .int a0), (2, .int a1), (3, .int a2)]) 90 (fun _ => []) ?_ (fun at90 => ?_)
            · skip
              intro _ hh
              refine j_aload_n F d_MT_put_90 rfl rfl ?_
              refine j_get F C1.1 rfl in_MT 2 (by decide) wf_MT_20 rfl d_MT_put_91 ?_
              refine j_get F C1.2.2.1 rfl in_TR 1 (by decide) wf_MT_62 rfl d_MT_put_94 ?_
              refine j_sipush F (v := 160) d_MT_put_97 (by decide) ?_
              refine j_icmp_lt F (tgt := 111) d_MT_put_100 (by decide) (fun hq1 => ?_) (fun hq1 => ?_)
              · skip
                have hlt : σ.2.1.length < 160 := (nI_ltI (b := 160) (by omega) (by decide)).mp hq1
                have e0 : sp_put a0 a1 a2 σ = (0, nI (σ.2.1.length + 1), ([], pu_ins σ.2.1 (fi σ.2.1 σ.1 a0) (σ.1, a0, a1, a2), pu_cur (fi σ.2.1 σ.1 a0) σ.2.2)) := by
                  unfold sp_put
                  rw [if_neg hnb, if_neg hh, if_neg (by omega)]
                rw [e0]
                refine j_aload_n F d_MT_put_111 rfl rfl ?_
                refine j_get F C1.1 rfl in_MT 2 (by decide) wf_MT_20 rfl d_MT_put_112 ?_
                refine j_new F (ci := 2) (fs := [.null, .int 0, .int 0, .int 0, .int 0, .null, .null]) rfl in_VE ty_VE ok_VE wc_MT_51 win_VE wi_VE (fun j hj => by rcases (show j = 0 ∨ j = 1 ∨ j = 2 ∨ j = 3 ∨ j = 4 ∨ j = 5 ∨ j = 6 by omega) with rfl | rfl | rfl | rfl | rfl | rfl | rfl <;> rfl) (by decide) (by decide) d_MT_put_115 (fun b0 zb nb => ?_)
                refine j_dup F d_MT_put_118 rfl ?_
                refine j_aload F d_MT_put_119 rfl ?_
                refine j_iload_n F d_MT_put_121 rfl rfl ?_
                refine j_iload_n F d_MT_put_122 rfl rfl ?_
                refine j_iload_n F d_MT_put_123 rfl rfl ?_
                refine j_callI F 4 (c_VE_init hl (k := σ.1) (mp_Us _ _ _) zb) wl_MT_68 wim_VE_init wi_VE wco_VE_init rfl (fun v M1 h => by cases h.1) (by decide +kernel) (by decide) rfl rfl (Nat.le_of_ble_eq_true rfl) (by decide) (by decide) d_MT_put_124 (fun M3 hp => ?_)
                obtain ⟨-, hv3, hf3⟩ := hp
                have hM3 : ∀ q w, M1 q = some w → M3 q = some w := fun q w hq => by
                  have hqb : q ≠ b0 := fun z => by rw [z, nb] at hq; cases hq
                  exact (hf3 q hqb).trans ((mp_Un hqb).trans hq)
                have C3 : cl_C G M3 B x ([], σ.2) ta tt root L tf h := cl_x C1 (hM3 _ _ C1.1) (fun q w _ hq => hM3 q w hq) rfl (Or.inl rfl) ok5
                have hkb3 : ky G M3 kb σ.1 := by
                  obtain ⟨kf, w1, w2⟩ := hk1
                  exact ⟨kf, hM3 _ _ w1, w2⟩
                have hadr : ∀ q ∈ ad_L L, ∃ (ka : Nat) (e9 : en_T) (ht9 : Int32) (l9 r9 : Option Nat), M1 q = some (vE ka e9 ht9 l9 r9) := fun q hq => by
                  obtain ⟨y, hy, rfl⟩ := List.mem_map.mp hq
                  obtain ⟨⟨w1, w2, w3, w4⟩, -⟩ := tr_no _ C1.2.2.2.1 y hy
                  exact ⟨_, _, w1, w2, w3, w4⟩
                have hnb0 : b0 ∉ ad_L L := fun z => by
                  obtain ⟨_, _, _, _, _, w⟩ := hadr b0 z
                  rw [nb] at w; cases w
                have hzL : ∀ q ∈ ad_L L, G.2.2.1 ≤ q := fun q hq => by
                  obtain ⟨y, hy, rfl⟩ := List.mem_map.mp hq
                  exact (hL y hy).2.1
                have hne0 : ∀ y ∈ L, oc y.2.2 σ.1 a0 ≠ 0 := fun y hy => hit_0 hsr hh y.2.2 (by rw [← hmap]; exact List.mem_map.mpr ⟨y, hy, rfl⟩)
                refine j_callV F 1 (c_TR_add hl (xb := (σ.1, a0, a1, a2)) C3.2.2.1 ztt C3.2.2.2.1 (by omega) hv3 hkb3 hnb0 nd hzL zb (by rw [hmap]; exact hsr) hne0 (fun y hy => by have := hk40 y hy; omega) (by dsimp only; omega)) C3.2.2.1 rfl wl_MT_71 wim_TR_add wse_TR_add wi_TR wco_TR_add (by decide +kernel) (by decide) rfl rfl (Nat.le_of_ble_eq_true rfl) (by decide) (by decide) d_MT_put_127 (fun E M1 hx => hx.elim) (fun r M4 hp => ?_)
                obtain ⟨rfl, root1, h1', ht4, tr4, ha4, hf4⟩ := hp
                have xtt : x ≠ tt := fun z => by
                  have w := C1.1
                  rw [z, C1.2.2.1] at w
                  cases w
                have xb0 : x ≠ b0 := fun z => by
                  have w := C1.1
                  rw [z, nb] at w
                  cases w
                have xL : x ∉ ad_L L := fun z => by
                  obtain ⟨_, _, _, _, _, w⟩ := hadr x z
                  rw [C1.1] at w
                  cases w
                have hx4 := (hf4 x xb0 xtt xL).trans C3.1
                have hta4 := ha4 _ _ C3.2.1
                rw [hmap] at tr4
                refine j_aload_n F d_MT_put_130 rfl rfl ?_
                refine j_get F hx4 rfl in_MT 2 (by decide) wf_MT_20 rfl d_MT_put_131 ?_
                refine j_get F ht4 rfl in_TR 1 (by decide) wf_MT_62 rfl d_MT_put_134 ?_
                have hpm := in_perm L (fi σ.2.1 σ.1 a0) (b0, kb, (σ.1, a0, a1, a2))
                have hfr : ∀ q, B q → M4 q = M q := fun q hq => by
                  have q1 : q ≠ b0 := fun z => by
                    obtain ⟨w, hw⟩ := hB q hq
                    rw [← fB q hq, z, nb] at hw
                    cases hw
                  have q2 : q ≠ tt := fun z => btt (by rw [← z]; exact hq)
                  have q3 : q ∉ ad_L L := fun z => by
                    obtain ⟨y, hy, rfl⟩ := List.mem_map.mp z
                    exact (hL y hy).2.2.1 hq
                  exact (hf4 q q1 q2 q3).trans ((hf3 q q1).trans ((mp_Un q1).trans (fB q hq)))
                have nB0 : ¬ B b0 := fun z => by
                  obtain ⟨w, hw⟩ := hB b0 z
                  rw [← fB b0 z, nb] at hw
                  cases hw
                refine j_iret F hr (by decide) (by decide) ⟨rfl, rfl, ⟨ta, tt, root1, in_L L (fi σ.2.1 σ.1 a0) (b0, kb, (σ.1, a0, a1, a2)), tf, h1', ?_, hta4, ?_, tr4, ?_, ?_, ?_, ?_, ⟨zx, zta, ztt⟩, ⟨bx, bta, btt⟩, tp_nil _, hbt, ⟨Nat.zero_le _, fun _ h => (by cases h), ?_, ?_, ?_⟩⟩, hfr⟩ d_MT_put_137
                · dsimp only
                  rw [in_cur _ (by omega)]
                  exact hx4
                · dsimp only
                  rw [ins_len hfl]
                  exact ht4
                · rw [in_map, hmap]
                · exact srt_ins (x := (σ.1, a0, a1, a2)) hsr hh
                · exact (hpm.map (fun y => y.1)).nodup_iff.mpr (List.nodup_cons.mpr ⟨hnb0, nd⟩)
                · intro y hy
                  rcases List.mem_cons.mp (hpm.mem_iff.mp hy) with z | z
                  · rw [z]
                    exact ⟨fun z => (by dsimp only at z; rw [z, hta] at nk; cases nk), zb, nB0, nBk⟩
                  · exact hL y z
                · dsimp only
                  rw [ins_len hfl]
                  omega
                · intro e9 he
                  rcases ins_mem he with z | z
                  · rw [z]; exact hk
                  · exact ok4 e9 z
                · intro i hi
                  dsimp only
                  rw [ins_len hfl]
                  exact pu_cl ok5 i hi
              · skip
                have hge : σ.2.1.length = 160 := by
                  have hq1 : ¬ nI σ.2.1.length < 160 := hq1
                  have : ¬ σ.2.1.length < 160 := fun z => hq1 ((nI_ltI (b := 160) (by omega) (by decide)).mpr z)
                  omega
                have e0 : sp_put a0 a1 a2 σ = (2, 0, ([], σ.2)) := by
                  unfold sp_put
                  rw [if_neg hnb, if_neg hh, if_pos hge]
                rw [e0]
                exact j_throw F (names := ["java/lang/RuntimeException", "java/lang/Exception"]) (by decide +kernel) (by decide +kernel) wc_MT_65 wi_IS w3_IS w4_IS (jf_sx F).2.2.2.2.2.2.2.2.1 wg_IS_65 rfl (by decide) (Nat.le_of_ble_eq_true rfl) (by decide) (by decide) (⟨⟨1, rfl, rfl⟩, cl_shut C1, fB⟩) d_MT_put_103 d_MT_put_106 d_MT_put_107 d_MT_put_110
            refine j_aloadq F d_MT_put_54 rfl ?_
            rcases at_L (v := fi σ.2.1 σ.1 a0) hmap with ⟨hv0, hv1⟩ | ⟨y, hv0, hy, hv1, hv2⟩
            · skip
              rw [hv0] at at90 ⊢
              exact j_ifnull F (tgt := 90) d_MT_put_56 (by decide) (fun _ => at90 () (by rw [hit_no hv1]; decide)) (fun z hz => by cases hz)
            · skip
              rw [hv0] at at90 ⊢
              obtain ⟨⟨ht9, l9, r9, hv9⟩, hk9⟩ := tr_no _ C1.2.2.2.1 y hy
              have hy40 := hk40 y hy
              have hzy := (hL y hy).2.1
              refine j_ifnull F (r := some y.1) (tgt := 90) d_MT_put_56 (by decide) (fun hz => by cases hz) (fun z hz => ?_)
              refine j_aload F d_MT_put_59 rfl ?_
              refine j_aload F d_MT_put_61 rfl ?_
              refine j_iload_n F d_MT_put_63 rfl rfl ?_
              refine j_callV F 2 (c_VE_orderOf hl hv9 hk9 (Or.inl hk1) (by omega) (by omega) (mm := a0)) hv9 rfl wl_MT_50 wim_VE_orderOf wse_VE_orderOf wi_VE wco_VE_orderOf (by decide +kernel) (by decide) rfl rfl (Nat.le_of_ble_eq_true rfl) (by decide) (by decide) d_MT_put_64 (fun E M1 hx => hx.elim) (fun r M9 hp => ?_)
              obtain ⟨rfl, d, rfl, hd1, hd2⟩ := hp
              refine j_if_ne F (tgt := 90) d_MT_put_67 (by decide) (fun hq2 => ?_) (fun hq2 => ?_)
              · skip
                exact at90 () (fun z => hq2 (hd2.mpr ((hit_of hv1).mp z)))
              · skip
                have hh : hit σ.2.1 σ.1 a0 = true := (hit_of hv1).mpr (hd2.mp hq2)
                have e0 : sp_put a0 a1 a2 σ = (0, nI σ.2.1.length, ([], pu_set σ.2.1 (fi σ.2.1 σ.1 a0) a1 a2, σ.2.2)) := by
                  unfold sp_put
                  rw [if_neg hnb, if_pos hh]
                rw [e0]
                refine j_aload F d_MT_put_70 rfl ?_
                refine j_iload_n F d_MT_put_72 rfl rfl ?_
                refine j_put F hv9 hzy rfl in_VE ty_VE ok_VE nm_VE 2 (by decide) wf_MT_56 rfl (ty := .int) (by decide +kernel) rfl rfl (Nat.le_of_ble_eq_true rfl) d_MT_put_73 ?_
                refine j_nmW (P := fun M2 => M2 y.1 = some (vE y.2.1 (y.2.2.1, y.2.2.2.1, a1, y.2.2.2.2.2) ht9 l9 r9) ∧ ∀ q, q ≠ y.1 → M2 q = M1 q) ⟨mp_Us _ _ _, fun q hq => mp_Un hq⟩ (fun M2 S2 => ?_)
                refine j_aload F d_MT_put_76 rfl ?_
                refine j_iload_n F d_MT_put_78 rfl rfl ?_
                refine j_put F S2.1 hzy rfl in_VE ty_VE ok_VE nm_VE 3 (by decide) wf_MT_59 rfl (ty := .int) (by decide +kernel) rfl rfl (Nat.le_of_ble_eq_true rfl) d_MT_put_79 ?_
                refine j_nmW (P := fun M2 => M2 y.1 = some (vE y.2.1 (y.2.2.1, y.2.2.2.1, a1, a2) ht9 l9 r9) ∧ ∀ q, q ≠ y.1 → M2 q = M1 q) ⟨mp_Us _ _ _, fun q hq => (mp_Un hq).trans (S2.2 q hq)⟩ (fun M3 S3 => ?_)
                have xy : x ≠ y.1 := fun z => by
                  have w := C1.1
                  rw [z, hv9] at w
                  cases w
                have tty : tt ≠ y.1 := fun z => by
                  have w := C1.2.2.1
                  rw [z, hv9] at w
                  cases w
                have tay : ta ≠ y.1 := fun z => by
                  have w := C1.2.1
                  rw [z, hv9] at w
                  cases w
                have hx3 := (S3.2 x xy).trans C1.1
                have ht3 := (S3.2 tt tty).trans C1.2.2.1
                have har : ∀ q w, M1 q = some (.inl w) → M3 q = some (.inl w) := fun q w hq => (S3.2 q (fun z => by rw [z, hv9] at hq; cases hq)).trans hq
                refine j_aload_n F d_MT_put_82 rfl rfl ?_
                refine j_get F hx3 rfl in_MT 2 (by decide) wf_MT_20 rfl d_MT_put_83 ?_
                refine j_get F ht3 rfl in_TR 1 (by decide) wf_MT_62 rfl d_MT_put_86 ?_
                refine j_iret F hr (by decide) (by decide) ⟨rfl, by dsimp only, ⟨ta, tt, root, L.map (mod_L y.1 a1 a2), tf, h, ?_, (S3.2 ta tay).trans C1.2.1, ?_, tr_mod S3.2 (fun ka e9 ht l r hq => ?_) h har C1.2.2.2.1, ?_, srt_set _ _ _ hsr, ?_, ?_, ⟨zx, zta, ztt⟩, ⟨bx, bta, btt⟩, tp_nil _, hbt, ⟨Nat.zero_le _, fun _ h => (by cases h), ?_, ?_, ?_⟩⟩, fun q hq => (S3.2 q (fun z => (hL y hy).2.2.1 (by rw [← z]; exact hq))).trans (fB q hq)⟩ d_MT_put_89
                · dsimp only
                  have hce : (fun c : Nat => ((L.map (mod_L y.1 a1 a2))[c]?).map (fun y : no_T => y.1)) = (fun c : Nat => (L[c]?).map (fun y : no_T => y.1)) := by
                    funext c
                    rw [List.getElem?_map]
                    cases L[c]? with
                    | none => rfl
                    | some w => simp only [Option.map_some, mod_1]
                  rw [hce]
                  exact hx3
                · dsimp only
                  rw [set_len]
                  exact ht3
                · rw [hv9] at hq
                  have hE : vE y.2.1 y.2.2 ht9 l9 r9 = vE ka e9 ht l r := Option.some.inj hq
                  have hE1 := Sum.inr.inj hE
                  simp only [Prod.mk.injEq, List.cons.injEq, Value.ref.injEq, Value.int.injEq, and_true, true_and] at hE1
                  obtain ⟨w1, w2, -, -, w5, w6, w7⟩ := hE1
                  rw [S3.1]
                  unfold vE
                  dsimp only
                  rw [w1, w2, w5, w6, w7]
                · rw [mod_map _ _ nd hv0, hmap]
                · have hce : (L.map (mod_L y.1 a1 a2)).map (fun y => y.1) = L.map (fun y => y.1) := by
                    rw [List.map_map]
                    apply List.map_congr_left
                    intro w _
                    exact mod_1 _ _ _ w
                  rw [hce]
                  exact nd
                · intro w hw
                  obtain ⟨w0, hw0, rfl⟩ := List.mem_map.mp hw
                  rw [mod_1, mod_2]
                  exact hL w0 hw0
                · dsimp only
                  rw [set_len]
                  exact ok3
                · intro e9 he
                  obtain ⟨e8, w1, w2, -⟩ := set_mem he
                  rw [w2]
                  exact ok4 e8 w1
                · intro i hi
                  dsimp only
                  rw [set_len]
                  exact ok5 i hi
          · skip
            have hk : ¬ (1 ≤ σ.1.length ∧ σ.1.length ≤ 40) := fun z => by
              rw [if_pos z] at h5
              exact absurd h5 (by decide)
            have e0 : sp_put a0 a1 a2 σ = (1, 0, σ) := if_pos ((pu_badE _ _ _ _).mpr (by
              by_cases z : σ.1.length < 1
              · exact Or.inr (Or.inr (Or.inr (Or.inr (Or.inl z))))
              · exact Or.inr (Or.inr (Or.inr (Or.inr (Or.inr (by omega)))))))
            rw [e0]
            exact j_throw F (names := ["java/lang/RuntimeException", "java/lang/Exception"]) (by decide +kernel) (by decide +kernel) wc_MT_35 wi_IA w3_IA w4_IA (jf_sx F).2.2.2.2.2.2.2.1 wg_IA_35 rfl (by decide) (Nat.le_of_ble_eq_true rfl) (by decide) (by decide) (⟨⟨0, rfl, rfl⟩, A, fun _ _ => rfl⟩) d_MT_put_27 d_MT_put_30 d_MT_put_31 d_MT_put_34
/-- all that is asked of the subject -/
theorem K_proved (l : Launch) (hl : l.stackTraces = false) (G : gv_T) : K_all l G := ⟨k_init hl, k_feed hl, k_end hl, k_put hl, k_find hl, k_seek hl, k_next hl, k_first hl, k_current hl, k_word hl, k_clear hl, k_count hl⟩
end MT4
end
section
theorem whole_start {p : Program} {e : Env} {s : State} {m : MethodId} {below : List Frame} {meth : Method} {c : Code} (l : Launch) (hl : l.stackTraces = false) {b L : Nat} {xs : Nat → Int32} (hL : L ≤ 3072) (C0 : lw_At p s m meth c b L xs) : W p l e room_1 s m #[Value.ref b] below meth c s.heap [] 0 0 (lw_Z below #[Value.ref b] s) (entryFrame m ([Value.ref b] : List Value).toArray 8) := whole_open l hl (fun G => K_proved l hl G) hL C0

set_option maxHeartbeats 4000000 in
theorem lw_walk (l : Launch) (hl : l.stackTraces = false) (b : Addr) (xs : List Int32) : MetFree l x (headSpec (Jvm.Cond.code x code maxLocals ret :: tables_1) room_1) (lw_P b xs) (fun _ _ _ _ _ => True) lw_Q := by
  refine MetFree.of_bodyS (code := code) (maxLocals := maxLocals) (ret := ret) (by decide) ?_ ?_
  · intro args s m h hn
    obtain ⟨meth, c, h1, h2, h3, h4, h5, h6, -, -⟩ := Cond.code_spec hn (atoms_spec (ws := Jvm.Cond.code x code maxLocals ret :: tables_1) h _ List.mem_cons_self)
    exact ⟨meth, c, h1, h2, h3, h4, h5, h6⟩
  · intro p e s m args below meth c s₁ B hml0 hP _
    obtain ⟨rfl, hx, hbd, hgv⟩ := hP
    obtain ⟨scr, harrAt, hlist, hof, hsmall⟩ := hx
    obtain ⟨hcb, hkn, -, -⟩ := State.arrayAt?_spec harrAt
    have hown : s.vm.findClass R_law = some m.cls := findClass_of_methodNamed B.named
    have hts0 : ∀ c ∈ (Jvm.Cond.code x code maxLocals ret :: tables_1), c.before #[Value.ref b] s = true := atoms_spec (ws := Jvm.Cond.code x code maxLocals ret :: tables_1) B.pre
    have hts : ∀ w ∈ lw_tbl, w.before #[Value.ref b] s = true := k2_hts_sels lw_privs (fun w hw => hts0 w (List.mem_cons_of_mem _ hw)) lw_privs_ok
    have hml : c.maxLocals = 8 := B.maxLocals_eq (hts0 _ List.mem_cons_self)
    have X₀ : Stand p l e room_1 s m #[Value.ref b] below meth c s₁ [] 0 0 := Stand.of_body B
    have hh0 : s₁.heap = s.heap := by rw [B.state]; rfl
    have hsz : scr.slots.size = xs.length := by rw [← Array.length_toList, hlist, List.length_map]
    have hval : ∀ j : Nat, j < xs.length → scr.slots[j]? = some (.int (xs.getD j 0)) := fun j hj => by
      rw [← Array.getElem?_toList, hlist]
      simp [hj]
    have hbl : b < s.heap.size := (Array.getElem?_eq_some_iff.mp hcb).1
    have hX : va_X b xs.length (fun j => xs.getD j 0) s s.heap := ⟨scr, hcb, hof, hkn, hsz, hval⟩
    have K : W p l e room_1 s m #[Value.ref b] below meth c s₁.heap [] 0 0 (lw_Z below #[Value.ref b] s) (entryFrame m ([Value.ref b] : List Value).toArray 8) := by
      rw [hh0]
      exact whole_start l hl hbd ⟨B.exec, B.bytes, B.returns, hml, hown, hts, hX, hbl, B.notSynchronized, hgv⟩
    obtain ⟨t, a1, o, b1, b2, b3⟩ := K s₁ rfl X₀
    exact ⟨t, o, a1, b1, b2, b3⟩
theorem lw_pre_spec {args : Array Value} {s : State} (h : (Jvm.Cond.and given_1 narrow_1).before args s = true) (hr : rest_1_c.before args s = true) : ∃ (b : Addr) (xs : List Int32), lw_P b xs args s := by
  have hs := flat_of_before _ h
  have hq := flat_of_before _ hr
  have hc : (Cond.count 1).before args s = true := hs _ (by decide +kernel)
  have harr : (Cond.arrayOf (.arg 0) .int).before args s = true := hs _ (by decide +kernel)
  have hle : (Cond.le (.length (.arg 0)) (.int 3072)).before args s = true := hs _ (by decide +kernel)
  have hlen : (Cond.isInt (.length (.arg 0))).before args s = true := hq _ (by decide +kernel)
  have hall : (Cond.all (.arg 0) (.isInt (.elem (.arg 0) (.index 0)))).before args s = true := hq _ (by decide +kernel)
  obtain ⟨b, xs, hb, hx⟩ := State.ints_of_pre rfl harr hlen hall
  have hsm : xs.length < 2 ^ 31 := hx.choose_spec.2.2.2
  have hev : (Term.length (.arg 0)).eval args s none [] s = some (.int xs.length.toInt32) := hx.length_eval hb
  have hv := Cond.le_ints hev (show (Term.int 3072).eval args s none [] s = some (.int 3072) from rfl)
  have hd : xs.length.toInt32 ≤ 3072 := by
    simpa [Cond.before, Cond.holds, hv] using hle
  have hN : xs.length ≤ 3072 := (Int32.ofNat_le_ofNat hsm (by decide)).mp (show Int32.ofNat xs.length ≤ Int32.ofNat 3072 from hd)
  exact ⟨b, xs, Cond.one_arg hc (show args[0]? = some (.ref b) from hb), hx, hN, h⟩
theorem lw_comes (l : Launch) (hl : l.stackTraces = false) : Comes l x (Jvm.Cond.code x code maxLocals ret :: tables_1) room_1 (fun tb e args s => Calls_1 tb e args s ∧ rest_1 tb e args s ∧ Pre_1 tb e args s)
    (fun _ _ args s o t => lw_Q args s o t) := by
  intro p e ha hc hk s m args below hf hfit hheap happ hpre
  obtain ⟨b, xs, hP⟩ := lw_pre_spec hpre.2.2 hpre.2.1
  obtain ⟨k, o, h1, h2, h3, hQ⟩ := lw_walk l hl b xs p e ha hc hk s m args below hf ((Spec.applies_iff_loose hf).mp happ).1 hP trivial
  exact ⟨k, o, h1, h2, h3, hQ⟩
theorem lw_frame {s t : State} {o : Outcome} {args : Array Value} (h : Framed s o t [] 601024 7293034) :
    Framed s o t (fieldLocs frame_1_writes args s ++ arrayLocs frame_1_arrays args s ++ staticLocs frame_1_statics s) 601024 7293034 := h
theorem lw_limb (L : Cond) (hL : ∀ (args : Array Value) (s t : State), L.after args s (.returned (some (.int 1))) t = true) :
    ArmFor flags0 classFile x code maxLocals ret World_1 tables_1 room_1 Calls_1 rest_1 Pre_1
      (fun tb e a s o t => postC L tb e a s o t ∧ Framed s o t (fieldLocs frame_1_writes a s ++ arrayLocs frame_1_arrays a s ++ staticLocs frame_1_statics s) 601024 7293034) := by
  intro l hfl _ _ p e ha hc hk s m args below hf hfit hheap happ hpre
  have hl : l.stackTraces = false := by unfold Launch.stackTraces; rw [hfl]; decide
  obtain ⟨k, o, h1, h2, h3, rfl, hF⟩ := lw_comes l hl p e ha hc hk s m args below hf hfit hheap happ hpre
  exact ⟨k, _, h1, h2, h3, hL args s _, lw_frame hF⟩
theorem i_vc : Claimed_1_1 ∧ Claimed_1_2 := ⟨lw_limb limb_1_1 (fun args s t => by simp [limb_1_1, Cond.after, Cond.holds, Cond.value]), lw_limb limb_1_2 (fun args s t => Cond.after_iff.mpr (by
  first | (rw [show limb_1_2 = Cond.eq .result (.int 1) from rfl, Cond.eq_ints (x := 1) (y := 1) rfl rfl]; simp; done) | (simp [limb_1_2, Cond.value, Term.eval]; done)))⟩
end
