section
/-! ===== BEGIN words of one list among another's, by their places ===== -/
theorem goodIn_r {big : List Cond} (ws : List Cond) (ps : List Nat) (hp : ws = ps.filterMap (fun i => big[i]?)) (h : ws.all goodWord = true) : GoodIn big ws := by
  intro w hw
  have h1 := List.all_eq_true.mp h w hw
  rw [hp] at hw
  obtain ⟨i, -, hi⟩ := List.mem_filterMap.mp hw
  have hm : w ∈ big := by first | exact List.mem_of_getElem? hi | exact List.getElem?_mem hi
  exact ⟨hm, good_of_word h1⟩
theorem goodIn_app {big a b : List Cond} (ha : GoodIn big a) (hb : GoodIn big b) : GoodIn big (a ++ b) := fun w h => (List.mem_append.mp h).elim (ha w) (hb w)
theorem goodIn_ca {big a b : List Cond} {c : Cond} (ha : GoodIn big (c :: a)) (hb : GoodIn big b) : GoodIn big (c :: (a ++ b)) := fun w h => (List.mem_cons.mp h).elim (fun e => ha w (List.mem_cons.mpr (Or.inl e))) (fun h => (List.mem_append.mp h).elim (fun h => ha w (List.mem_cons.mpr (Or.inr h))) (hb w))
theorem goodIn_sub {big ws : List Cond} (hm : ∀ w ∈ ws, w ∈ big) (h : ws.all goodWord = true) : GoodIn big ws := fun w hw => ⟨hm w hw, good_of_word (List.all_eq_true.mp h w hw)⟩
/-! ===== END ===== -/
/-! ===== BEGIN exceptions that leave a method, and their catching by the caller (launches without stack traces) ===== -/
section VXA
/-! The laws vx_back, vx_callV, vx_callS, vx_callSW, vx_throw0, vx_throwS follow proofs of the library, with one case more: JvmDerived/Free/Laws.lean (Back.of_free), Shelf42/LK1.lean (callV, callS), Shelf/KitTraced.lean (throwNew0V, throwNewS). -/
/-- where a method has thrown q: the class by its name, the cell, what was written, the world -/
def vx_T (XC : String → State → State → Prop) (st : State) (q : Addr) (t : State) (mc ms : Nat) (free : Addr → Prop) : Prop :=
  ∃ (E : String) (ce : Cell) (L : List Loc), XC E st t ∧ t.heap[q]? = some ce ∧ ce.vm = .none ∧ st.vm.findClass E = some ce.cls ∧ st.WarmedH t.vm ∧ st.sameButNew ({ t with vm := st.vm } : State) L mc ms ∧ ∀ z ∈ L, free z.base
def vx_Q (Qc : Array Value → State → Outcome → State → Prop) (XC : String → State → State → Prop) (mc ms : Nat) (free : Addr → Prop) : Array Value → State → Outcome → State → Prop := fun a st o t =>
  (Qc a st o t ∧ ∃ L, FrameEnd st o t L mc ms ∧ ∀ q ∈ L, free q.base) ∨ ∃ q, o = .threw q ∧ vx_T XC st q t mc ms free
/-- a callee that returns or throws -/
def vx_Met (l : Launch) (y : MethodName) (ws : List Cond) (rm : Room) (Pc : Array Value → State → Prop) (Qc : Array Value → State → Outcome → State → Prop) (XC : String → State → State → Prop) (mc ms : Nat) (free : Addr → Prop) : Prop :=
  MetFree l y (headSpec ws rm) Pc (fun _ _ _ _ _ => True) (vx_Q Qc XC mc ms free)
def vx_Post (XC : String → State → State → Prop) (mc ms : Nat) (free : Addr → Prop) : Pt → Array Value → Addr → Pt → Prop := fun A a q B =>
  ∃ (g : JFrame) (mk : MethodId) (t : State) (L : List Loc) (E : String) (ce : Cell), B.U.heap = t.heap ∧ B.U.vm = t.vm ∧ XC E (A.U.calling g mk a) t ∧ t.heap[q]? = some ce ∧ ce.vm = .none ∧ A.U.vm.findClass E = some ce.cls ∧ B.locs = A.locs ++ L ∧ (∀ z ∈ L, free z.base) ∧ B.cells = A.cells + mc ∧ B.slots = A.slots + ms
def vx_Back (l : Launch) (R : Room) (p : Program) (e : Env) (below : List Frame) (s : State) (sargs : Array Value) (y : MethodName) (len W9 : Nat)
    (Pre : Pt → Array Value → Prop) (Post : Pt → Array Value → Option Value → Pt → Prop) (PostX : Pt → Array Value → Addr → Pt → Prop) : Prop :=
  ∀ (m : MethodId) (meth : Method) (c : Code) (A : Pt) (g : JFrame) (ig : Instr) (mk : MethodId) (a : Array Value),
    Stand p l e R s m sargs below meth c A.U A.locs A.cells A.slots → g.method = m → g.locals.size = c.maxLocals → decode c.code g.pc = .ok (ig, len) →
    2 * g.monitorRoom + (g.stack.map fun v => v.category).sum ≤ W9 → A.U.methodNamed? y = some mk → Pre A a →
    (∃ (v : Option Value) (B : Pt), Stand p l e R s m sargs below meth c B.U B.locs B.cells B.slots ∧ Post A a v B ∧
      Steps p.tables e below (doInvoke e (A.U.setTop g) [] mk a).1 (B.U.setTop { g with pc := g.pc + len, stack := v.toList ++ g.stack })) ∨
    (∃ (q : Addr) (B : Pt), Stand p l e R s m sargs below meth c B.U B.locs B.cells B.slots ∧ PostX A a q B ∧
      Steps p.tables e below (doInvoke e (A.U.setTop g) [] mk a).1 ((B.U.setTop g).pushFrame (.throwing q)))
section Payer
variable {l : Launch} {R : Room} {p : Program} {e : Env} {below : List Frame} {s : State} {sargs : Array Value} {y : MethodName} {len W9 : Nat}
theorem vx_back {ws : List Cond} {rm : Room} {Pc : Array Value → State → Prop} {Qc : Array Value → State → Outcome → State → Prop} {XC : String → State → State → Prop} {mc ms : Nat} {free : Addr → Prop} {bytes : ByteArray} {maxL : Nat} {ret : Option FieldType}
    (hM : vx_Met l y ws rm Pc Qc XC mc ms free) (hblind : FrameBlind Pc) (hrc : rm.cells = mc) (hrs : rm.slots = ms)
    (hframes : rm.frames + 1 ≤ R.frames) (hlocals : W9 + (maxL + 11) + rm.locals ≤ R.locals)
    (hws : ∀ w ∈ ws, ∀ a' U, s.WarmedH U.vm → w.before a' U = true) (hcode : Cond.code y bytes maxL ret ∈ ws) (hinit : ∀ a' U, s.WarmedH U.vm → (Cond.initialized y.cls).before a' U = true) :
    vx_Back l R p e below s sargs y len W9 (PreOf R mc ms Pc) (PostOf Qc mc ms free) (vx_Post XC mc ms free) := by
  intro m meth c A g ig mk a X hg hsize hdg hW hn hp
  have h1 : (headSpec ws rm).pre.before a A.U = true := atoms_intro fun w hw => hws w hw _ _ X.warmed
  have h2 : (Cond.code y bytes maxL ret).before a A.U = true := hws _ hcode _ _ X.warmed
  have h3 : (Cond.initialized y.cls).before a A.U = true := hinit _ _ X.warmed
  have h4 : A.cells + (headSpec ws rm).room.cells ≤ R.cells := by rw [show (headSpec ws rm).room.cells = mc from hrc]; exact hp.1
  have h5 : A.slots + (headSpec ws rm).room.slots ≤ R.slots := by rw [show (headSpec ws rm).room.slots = ms from hrs]; exact hp.2.1
  have hPc : Pc a (A.U.calling g mk a) := hblind _ _ _ _ hp.2.2
  obtain ⟨U, Ls, c0, s0⟩ := A
  dsimp only [Pt.U, Pt.locs, Pt.cells, Pt.slots] at h1 h2 h3 h4 h5 X hn hPc ⊢
  obtain ⟨methY, cY, hmY, hcY, -, hlY, -, -, -, -⟩ := Cond.code_spec hn h2
  obtain ⟨kY, hkY, -⟩ := className_of_methodNamed hn
  have hinitY : kY.init = .initialized := Cond.initialized_spec (findClass_of_methodNamed hn) hkY h3
  have h : At U g.method c below := by rw [hg]; exact X.here
  have hlocals9 : W9 + (maxL + 11) + (headSpec ws rm).room.locals ≤ R.locals := hlocals
  have happ : (headSpec ws rm).appliesLoose y e.platform (U.calling g mk a) = true :=
    Spec.appliesLoose_calling (g := g) h hdg hn hkY hinitY
      (X.room_calling (g := g) (R' := (headSpec ws rm).room) hsize hmY hcY hframes (by rw [hlY]; omega) h4 h5) h1
  obtain ⟨mid, hmid⟩ := h.above
  have hfr : (U.setTop g).frames = (.java g :: mid) ++ below := by rw [State.frames_setTop' g h.top, hmid]; rfl
  obtain ⟨o, s₂, hsteps, -, hend, hq⟩ := Steps.callFree hM p X.admits X.cas X.clock (acts := []) hfr happ hPc trivial
  have hq' : vx_Q Qc XC mc ms free a (U.calling g mk a) o s₂ := hq
  rw [State.frames_setTop' g h.top] at hend
  obtain ⟨g₀, hg0⟩ := Option.isSome_iff_exists.mp h.top
  obtain ⟨r, hr⟩ := State.topJava?_eq_some.mp hg0
  have hr' : (({ U with heap := s₂.heap, slotsUsed := s₂.slotsUsed } : State).setVm s₂.vm).frames = .java g₀ :: r := hr
  rcases hq' with ⟨hqc, L, hfe, hL⟩ | ⟨q, rfl, E, ce, L, hx, hce, hcv, hcl, hW₂, hsm, hL⟩
  · obtain ⟨⟨v, rfl⟩, hW₂, e2, q2, q3, q4, q5, q6⟩ := id hfe
    have e3 : s₂ = ({ (U.calling g mk a).setFrames s₂.frames with heap := s₂.heap, slotsUsed := s₂.slotsUsed } : State).setVm s₂.vm := by
      have : s₂ = ({ s₂ with vm := (U.calling g mk a).vm } : State).setVm s₂.vm := rfl
      rw [e2] at this
      exact this
    obtain ⟨c₂, i₂, len₂, hc₂, hd₂, hf₂⟩ := hend
    have hW' : U.WarmedH s₂.vm := hW₂
    have hcc : c₂ = c := by
      have h1 : s₂.code? g.method = U.code? g.method := by
        rw [State.code?_eq, State.code?_eq, hW'.alike.method?]
      exact Option.some.inj (hc₂.symm.trans (h1.trans h.code))
    subst hcc
    have hlen : len₂ = len := by rw [hdg] at hd₂; cases hd₂; rfl
    subst hlen
    have hs₂ : s₂ = (({ U with heap := s₂.heap, slotsUsed := s₂.slotsUsed } : State).setVm s₂.vm).setTop { g with pc := g.pc + len₂, stack := v.toList ++ g.stack } := by
      refine e3.trans ?_
      rw [hf₂, State.calling_eq h.top, State.setFrames_setFrames, State.setTop_of_frames _ hr', hr]
      rfl
    have hsame : U.sameButNew ({ U with heap := s₂.heap, slotsUsed := s₂.slotsUsed } : State) L mc ms := by
      refine ⟨?_, q2, q3, q4, q5, q6⟩
      obtain ⟨t, ht, -⟩ := State.frames_cons hr
      show ({ U with heap := s₂.heap, slotsUsed := s₂.slotsUsed } : State) = { U.setFrames U.frames with heap := s₂.heap, slotsUsed := s₂.slotsUsed }
      rw [State.setFrames_self ht]
    subst hg
    refine Or.inl ⟨v, ⟨(({ U with heap := s₂.heap, slotsUsed := s₂.slotsUsed } : State).setVm s₂.vm), Ls ++ L, c0 + mc, s0 + ms⟩,
      ⟨X.admits, X.cas, X.clock, X.frames, X.room, X.hears, X.method, X.code, (X.here.setHeapUsed s₂.heap s₂.slotsUsed).setVm hW'.alike, X.tail, State.WarmedH.trans X.warmed hW', X.limits, X.bytes, X.same.trans (hsame.setVm s.vm)⟩,
      ⟨g, mk, s₂, L, rfl, rfl, hqc, rfl, hL, rfl, rfl⟩, ?_⟩
    show Steps p.tables e below _ ((({ U with heap := s₂.heap, slotsUsed := s₂.slotsUsed } : State).setVm s₂.vm).setTop { g with pc := g.pc + len₂, stack := v.toList ++ g.stack })
    rw [← hs₂]
    exact hsteps
  · obtain ⟨e2, q2, q3, q4, q5, q6⟩ := id hsm
    have e3 : s₂ = ({ (U.calling g mk a).setFrames s₂.frames with heap := s₂.heap, slotsUsed := s₂.slotsUsed } : State).setVm s₂.vm := by
      have : s₂ = ({ s₂ with vm := (U.calling g mk a).vm } : State).setVm s₂.vm := rfl
      rw [e2] at this
      exact this
    have hf₂ : s₂.frames = .throwing q :: .java g :: U.frames.tail := hend
    have hW' : U.WarmedH s₂.vm := hW₂
    have hs₂ : s₂ = ((({ U with heap := s₂.heap, slotsUsed := s₂.slotsUsed } : State).setVm s₂.vm).setTop g).pushFrame (.throwing q) := by
      refine e3.trans ?_
      rw [hf₂, State.calling_eq h.top, State.setFrames_setFrames, State.pushFrame, State.frames_setTop _ hr', State.setTop_of_frames _ hr', State.setFrames_setFrames, hr]
      rfl
    have hsame : U.sameButNew ({ U with heap := s₂.heap, slotsUsed := s₂.slotsUsed } : State) L mc ms := by
      refine ⟨?_, q2, q3, q4, q5, q6⟩
      obtain ⟨t, ht, -⟩ := State.frames_cons hr
      show ({ U with heap := s₂.heap, slotsUsed := s₂.slotsUsed } : State) = { U.setFrames U.frames with heap := s₂.heap, slotsUsed := s₂.slotsUsed }
      rw [State.setFrames_self ht]
    subst hg
    refine Or.inr ⟨q, ⟨(({ U with heap := s₂.heap, slotsUsed := s₂.slotsUsed } : State).setVm s₂.vm), Ls ++ L, c0 + mc, s0 + ms⟩,
      ⟨X.admits, X.cas, X.clock, X.frames, X.room, X.hears, X.method, X.code, (X.here.setHeapUsed s₂.heap s₂.slotsUsed).setVm hW'.alike, X.tail, State.WarmedH.trans X.warmed hW', X.limits, X.bytes, X.same.trans (hsame.setVm s.vm)⟩,
      ⟨g, mk, s₂, L, E, ce, rfl, rfl, hx, hce, hcv, hcl, rfl, hL, rfl, rfl⟩, ?_⟩
    show Steps p.tables e below _ (((({ U with heap := s₂.heap, slotsUsed := s₂.slotsUsed } : State).setVm s₂.vm).setTop g).pushFrame (.throwing q))
    rw [← hs₂]
    exact hsteps
end Payer
section Calls
variable {p : Program} {l : Launch} {e : Env} {R : Room} {s : State} {m : MethodId} {args : Array Value} {below : List Frame} {meth : Method} {c : Code} {T : State} {locs : List Loc} {cells slots : Nat}
theorem vx_callV (X : Stand p l e R s m args below meth c T locs cells slots) (hexec : p.tables.exec = Jvm.exec) {own C : String} {index : Nat} {y : MethodName} {bytes : ByteArray} {maxL : Nat} {ret : Option FieldType}
    (hown : s.vm.findClass own = some m.cls) (hlink : (Cond.methodLink own index y).before args s = true) (hinst : (Cond.instanceMethod y).before args s = true) (hsel : (Cond.selects C y y).before args s = true)
    (hcode : (Cond.code y bytes maxL ret).before args s = true) (hy : y.cls ≠ "java/lang/invoke/MethodHandle" ∧ y.cls ≠ "java/lang/invoke/VarHandle")
    {W9 : Nat} {Pre : Pt → Array Value → Prop} {Post : Pt → Array Value → Option Value → Pt → Prop} {PostX : Pt → Array Value → Addr → Pt → Prop} (hK : vx_Back l R p e below s args y 3 W9 Pre Post PostX)
    {b : Addr} {cellB : Cell} (hcell : T.heap[b]? = some cellB) (hobj : cellB.vm.isStatics = false) (hcls : s.vm.findClass C = some cellB.cls)
    {g : JFrame} (hg : g.method = m) (hsize : g.locals.size = c.maxLocals) {argsL rest : List Value} (hlen : ∀ sig, parseMethodDescriptor y.desc = some sig → argsL.length = sig.parameters.length)
    (hstack : g.stack = argsL.reverse ++ .ref b :: rest) (hW : 2 * g.monitorRoom + (rest.map fun v => v.category).sum ≤ W9) (hdg : decode c.code g.pc = .ok (.invokevirtual index, 3))
    (hpre : ∀ vm₁, s.WarmedH vm₁ → Pre ⟨T.setVm vm₁, locs, cells, slots⟩ (Value.ref b :: argsL).toArray) :
    (∃ (v : Option Value) (vm₁ : Vm) (B : Pt), s.WarmedH vm₁ ∧ Stand p l e R s m args below meth c B.U B.locs B.cells B.slots ∧ Post ⟨T.setVm vm₁, locs, cells, slots⟩ (Value.ref b :: argsL).toArray v B ∧
      ∀ target, Steps p.tables e below (B.U.setTop { g with pc := g.pc + 3, stack := v.toList ++ rest }) target → Steps p.tables e below (T.setTop g) target) ∨
    (∃ (q : Addr) (vm₁ : Vm) (B : Pt), s.WarmedH vm₁ ∧ Stand p l e R s m args below meth c B.U B.locs B.cells B.slots ∧ PostX ⟨T.setVm vm₁, locs, cells, slots⟩ (Value.ref b :: argsL).toArray q B ∧
      Steps p.tables e below (T.setTop g) ((B.U.setTop { g with stack := rest }).pushFrame (.throwing q))) := by
  obtain ⟨mk, methM, hnamed, hmethM, hstM, habM⟩ := Cond.instanceMethod_spec hinst
  obtain ⟨methM', cM, hmethM', -, -, -, -, -, -, hsigM⟩ := Cond.code_spec hnamed hcode
  cases hmethM.symm.trans hmethM'
  obtain ⟨c2, r2, m2, q1, q2, q3, q4, kP, hkP, hkPi⟩ := Cond.selects_spec hsel
  cases hcls.symm.trans q1
  cases (State.methodFound?_of_named hnamed hy).symm.trans q2
  cases hnamed.symm.trans q3
  have hselP : selectMethod e.platform s.vm cellB.cls mk = .method mk := by rw [Launch.admits_selectMethod X.admits]; exact q4
  obtain ⟨vm₁, X₁, hstep₁⟩ := X.invokevirtual hexec hown hlink hnamed hmethM hstM hkP hkPi hy (a := b) (cell := cellB) hcell
    (fun z h => by rw [h] at hobj; cases hobj) hselP hmethM habM hkP hkPi (g := g) hg (argsL := argsL) (rest := rest) (hlen _ hsigM) hstack hdg
  rcases hK m meth c ⟨T.setVm vm₁, locs, cells, slots⟩ { g with stack := rest } (.invokevirtual index) mk (Value.ref b :: argsL).toArray X₁ hg hsize hdg hW (X₁.named hnamed) (hpre vm₁ X₁.warmed) with ⟨v, B, X', hpost, hsteps⟩ | ⟨q, B, X', hpost, hsteps⟩
  · exact Or.inl ⟨v, vm₁, B, X₁.warmed, X', hpost, fun target h => hstep₁ _ fun acts => by rw [doInvoke_state]; exact hsteps.trans h⟩
  · exact Or.inr ⟨q, vm₁, B, X₁.warmed, X', hpost, hstep₁ _ fun acts => by rw [doInvoke_state]; exact hsteps⟩
theorem vx_callS (X : Stand p l e R s m args below meth c T locs cells slots) (hexec : p.tables.exec = Jvm.exec) {own : String} {index : Nat} {y : MethodName} {bytes : ByteArray} {maxL : Nat} {ret : Option FieldType}
    (hown : s.vm.findClass own = some m.cls) (hlink : (Cond.methodLink own index y).before args s = true) (hstat : (Cond.static y).before args s = true) (hinit : (Cond.initialized y.cls).before args s = true)
    (hcode : (Cond.code y bytes maxL ret).before args s = true) (hy : y.cls ≠ "java/lang/invoke/MethodHandle" ∧ y.cls ≠ "java/lang/invoke/VarHandle")
    {W9 : Nat} {Pre : Pt → Array Value → Prop} {Post : Pt → Array Value → Option Value → Pt → Prop} {PostX : Pt → Array Value → Addr → Pt → Prop} (hK : vx_Back l R p e below s args y 3 W9 Pre Post PostX)
    {g : JFrame} (hg : g.method = m) (hsize : g.locals.size = c.maxLocals) {argsL rest : List Value} (hlen : ∀ sig, parseMethodDescriptor y.desc = some sig → argsL.length = sig.parameters.length)
    (hstack : g.stack = argsL.reverse ++ rest) (hW : 2 * g.monitorRoom + (rest.map fun v => v.category).sum ≤ W9) (hdg : decode c.code g.pc = .ok (.invokestatic index, 3))
    (hpre : ∀ vm₁, s.WarmedH vm₁ → Pre ⟨T.setVm vm₁, locs, cells, slots⟩ argsL.toArray) :
    (∃ (v : Option Value) (vm₁ : Vm) (B : Pt), s.WarmedH vm₁ ∧ Stand p l e R s m args below meth c B.U B.locs B.cells B.slots ∧ Post ⟨T.setVm vm₁, locs, cells, slots⟩ argsL.toArray v B ∧
      ∀ target, Steps p.tables e below (B.U.setTop { g with pc := g.pc + 3, stack := v.toList ++ rest }) target → Steps p.tables e below (T.setTop g) target) ∨
    (∃ (q : Addr) (vm₁ : Vm) (B : Pt), s.WarmedH vm₁ ∧ Stand p l e R s m args below meth c B.U B.locs B.cells B.slots ∧ PostX ⟨T.setVm vm₁, locs, cells, slots⟩ argsL.toArray q B ∧
      Steps p.tables e below (T.setTop g) ((B.U.setTop { g with stack := rest }).pushFrame (.throwing q))) := by
  obtain ⟨mk, hnamed⟩ := Cond.code_named hcode
  obtain ⟨methM, cM, hmethM, -, -, -, -, -, -, hsigM⟩ := Cond.code_spec hnamed hcode
  have hstatic : methM.isStatic = true := Cond.static_spec hnamed hmethM hstat
  obtain ⟨kP, hkP, -⟩ := className_of_methodNamed hnamed
  have hinitP : kP.init = .initialized := Cond.initialized_spec (findClass_of_methodNamed hnamed) hkP hinit
  obtain ⟨vm₁, X₁, hstep₁⟩ := X.invokestatic hexec hown hlink hnamed hmethM hstatic hkP hinitP hy (g := g) hg (argsL := argsL) (rest := rest) (hlen _ hsigM) hstack hdg
  rcases hK m meth c ⟨T.setVm vm₁, locs, cells, slots⟩ { g with stack := rest } (.invokestatic index) mk argsL.toArray X₁ hg hsize hdg hW (X₁.named hnamed) (hpre vm₁ X₁.warmed) with ⟨v, B, X', hpost, hsteps⟩ | ⟨q, B, X', hpost, hsteps⟩
  · exact Or.inl ⟨v, vm₁, B, X₁.warmed, X', hpost, fun target h => hstep₁ _ fun acts => by rw [doInvoke_state]; exact hsteps.trans h⟩
  · exact Or.inr ⟨q, vm₁, B, X₁.warmed, X', hpost, hstep₁ _ fun acts => by rw [doInvoke_state]; exact hsteps⟩
end Calls
theorem vx_cls {s : State} {T : State} {vm₁ : Vm} {E : String} {k : ClassId} (hW : s.WarmedH vm₁) (h : (T.setVm vm₁).vm.findClass E = some k) : s.vm.findClass E = some k := by
  have h1 : vm₁.findClass E = some k := h
  rw [hW.alike.findClass] at h1
  exact h1
/-- the method's frame g, with q thrown over it -/
def vx_W (p : Program) (l : Launch) (e : Env) (R : Room) (s : State) (m : MethodId) (args : Array Value) (below : List Frame) (meth : Method) (c : Code) (H : Heap) (locs : List Loc) (cells slots : Nat) (Q : State → Prop) (g : JFrame) (q : Addr) : Prop :=
  ∀ T : State, T.heap = H → Stand p l e R s m args below meth c T locs cells slots → ∃ t, Steps p.tables e below ((T.setTop g).pushFrame (.throwing q)) t ∧ Q t
def vx_Run (p : Program) (l : Launch) (e : Env) (R : Room) (s : State) (m : MethodId) (args : Array Value) (below : List Frame) (meth : Method) (c : Code) (H : Heap) (locs : List Loc) (cells slots mc ms : Nat) (g : JFrame) (rest : List Value) (Qa : State → Outcome → State → Prop) (XC : String → State → State → Prop) (free : Addr → Prop) : Prop :=
  ∀ T : State, T.heap = H → Stand p l e R s m args below meth c T locs cells slots →
    (∃ (v : Option Value) (st₀ t T' : State) (L : List Loc), st₀.heap = H ∧ Stand p l e R s m args below meth c T' (locs ++ L) (cells + mc) (slots + ms) ∧ (∀ q ∈ L, free q.base) ∧ T'.heap = t.heap ∧ T'.vm = t.vm ∧ Qa st₀ (.returned v) t ∧
      Goes p e below T g T' { g with pc := g.pc + 3, stack := v.toList ++ rest }) ∨
    (∃ (q : Addr) (st₀ t T' : State) (L : List Loc) (E : String) (ce : Cell), st₀.heap = H ∧ Stand p l e R s m args below meth c T' (locs ++ L) (cells + mc) (slots + ms) ∧ (∀ z ∈ L, free z.base) ∧ T'.heap = t.heap ∧ T'.vm = t.vm ∧ XC E st₀ t ∧ t.heap[q]? = some ce ∧ ce.vm = .none ∧ s.vm.findClass E = some ce.cls ∧
      Steps p.tables e below (T.setTop g) ((T'.setTop { g with stack := rest }).pushFrame (.throwing q)))
def vx_X {S : Type} (px : S → Prop) (B : String → S → State → Prop) (A : Nat → Prop) : String → State → State → Prop := fun E st t => ∃ u : S, px u ∧ B E u t ∧ va_F A st t
section Runs
variable {p : Program} {l : Launch} {e : Env} {R : Room} {s : State} {m : MethodId} {args : Array Value} {below : List Frame} {meth : Method} {c : Code} {H : Heap} {locs : List Loc} {cells slots : Nat}
variable {y : MethodName} {bytes cc : ByteArray} {maxL nL mc ms n index : Nat} {ret : Option FieldType} {ws : List Cond} {rm : Room} {Pc : Array Value → State → Prop} {Qc : Array Value → State → Outcome → State → Prop} {XC : String → State → State → Prop} {free : Addr → Prop} {Ts : List Cond} {own C : String} {b : Addr} {As rest : List Value} {g : JFrame}
theorem vx_callBack (cb : CallB R s args own index y bytes maxL ret ws rm mc ms n) (hM : vx_Met l y ws rm Pc Qc XC mc ms free) (hbl : FrameBlind Pc) : vx_Back l R p e below s args y 3 8 (PreOf R mc ms Pc) (PostOf Qc mc ms free) (vx_Post XC mc ms free) := by
  obtain ⟨hrc, hrs, hfr, hlo, hws, hcw, -, hini, -⟩ := cb
  exact vx_back (bytes := bytes) (maxL := maxL) (ret := ret) hM hbl hrc hrs hfr hlo hws hcw (fun a' U hW => word_at hW (Or.inl (by first | rfl | simp [Cond.onTables, Cond.keeps, Cond.steady])) hini)
theorem vx_runV (S : CallFix p m c cc nL s args Ts own) (hM : vx_Met l y ws rm Pc Qc XC mc ms free) (cw : CallW R s args own C index y bytes maxL ret ws rm mc ms n) (hp : PreV s H C b Pc As)
    (hg : g.method = m) (hn : As.length = n) (hsize : g.locals.size = nL) (hstack : g.stack = As.reverse ++ .ref b :: rest) (hW : 2 * g.monitorRoom + (rest.map fun v => v.category).sum ≤ 8) (hdg : decode cc g.pc = .ok (.invokevirtual index, 3)) (hf : cells + mc ≤ R.cells ∧ slots + ms ≤ R.slots) :
    vx_Run p l e R s m args below meth c H locs cells slots mc ms g rest (Qc (Value.ref b :: As).toArray) XC free := by
  have hK : vx_Back l R p e below s args y 3 8 (PreOf R mc ms Pc) (PostOf Qc mc ms free) (vx_Post XC mc ms free) := vx_callBack cw.1 hM hp.1
  obtain ⟨⟨-, -, -, -, -, -, hcode, -, hy, hlen, hl⟩, hin, hse⟩ := cw
  obtain ⟨hx, hb, hml, ho, -⟩ := S
  obtain ⟨-, ⟨cellB, hcB, hoB, hclB⟩, hPc⟩ := hp
  intro T hT X
  rcases vx_callV X hx (C := C) (bytes := bytes) (maxL := maxL) (ret := ret) ho hl hin hse hcode hy hK (by rw [hT]; exact hcB) hoB hclB hg (hsize.trans hml.symm) (argsL := As) (rest := rest) (fun sig h => hn.trans (hlen sig h)) hstack hW (by rw [hb]; exact hdg)
    (fun vm₁ hW₁ => ⟨hf.1, hf.2, hPc (T.setVm vm₁) hT hW₁⟩) with ⟨v, vm₁, ⟨U', l2, c2, s2⟩, hW₁, X', ⟨g', mk, t, L, e1, e2, hq, h1, hL, h2, h3⟩, st⟩ | ⟨q, vm₁, ⟨U', l2, c2, s2⟩, hW₁, X', ⟨g', mk, t, L, E, ce, e1, e2, hq, hce, hcv, hcl, h1, hL, h2, h3⟩, st⟩
  · dsimp only [Pt.U, Pt.locs, Pt.cells, Pt.slots] at X' e1 e2 h1 h2 h3 st
    subst h1; subst h2; subst h3
    exact Or.inl ⟨v, (T.setVm vm₁).calling g' mk (Value.ref b :: As).toArray, t, U', L, hT, X', hL, e1, e2, hq, st⟩
  · dsimp only [Pt.U, Pt.locs, Pt.cells, Pt.slots] at X' e1 e2 h1 h2 h3 st hcl
    subst h1; subst h2; subst h3
    exact Or.inr ⟨q, (T.setVm vm₁).calling g' mk (Value.ref b :: As).toArray, t, U', L, E, ce, hT, X', hL, e1, e2, hq, hce, hcv, vx_cls hW₁ hcl, st⟩
theorem vx_runS (S : CallFix p m c cc nL s args Ts own) (hM : vx_Met l y ws rm Pc Qc XC mc ms free) (cw : CallB R s args own index y bytes maxL ret ws rm mc ms n ∧ (Cond.static y).before args s = true) (hp : PreS s H Pc As)
    (hg : g.method = m) (hn : As.length = n) (hsize : g.locals.size = nL) (hstack : g.stack = As.reverse ++ rest) (hW : 2 * g.monitorRoom + (rest.map fun v => v.category).sum ≤ 8) (hdg : decode cc g.pc = .ok (.invokestatic index, 3)) (hf : cells + mc ≤ R.cells ∧ slots + ms ≤ R.slots) :
    vx_Run p l e R s m args below meth c H locs cells slots mc ms g rest (Qc As.toArray) XC free := by
  have hK : vx_Back l R p e below s args y 3 8 (PreOf R mc ms Pc) (PostOf Qc mc ms free) (vx_Post XC mc ms free) := vx_callBack cw.1 hM hp.1
  obtain ⟨⟨-, -, -, -, -, -, hcode, hini, hy, hlen, hl⟩, hstt⟩ := cw
  obtain ⟨hx, hb, hml, ho, -⟩ := S
  intro T hT X
  rcases vx_callS X hx (bytes := bytes) (maxL := maxL) (ret := ret) ho hl hstt hini hcode hy hK hg (hsize.trans hml.symm) (argsL := As) (rest := rest) (fun sig h => hn.trans (hlen sig h)) hstack hW (by rw [hb]; exact hdg)
    (fun vm₁ hW₁ => ⟨hf.1, hf.2, hp.2 (T.setVm vm₁) hT hW₁⟩) with ⟨v, vm₁, ⟨U', l2, c2, s2⟩, hW₁, X', ⟨g', mk, t, L, e1, e2, hq, h1, hL, h2, h3⟩, st⟩ | ⟨q, vm₁, ⟨U', l2, c2, s2⟩, hW₁, X', ⟨g', mk, t, L, E, ce, e1, e2, hq, hce, hcv, hcl, h1, hL, h2, h3⟩, st⟩
  · dsimp only [Pt.U, Pt.locs, Pt.cells, Pt.slots] at X' e1 e2 h1 h2 h3 st
    subst h1; subst h2; subst h3
    exact Or.inl ⟨v, (T.setVm vm₁).calling g' mk As.toArray, t, U', L, hT, X', hL, e1, e2, hq, st⟩
  · dsimp only [Pt.U, Pt.locs, Pt.cells, Pt.slots] at X' e1 e2 h1 h2 h3 st hcl
    subst h1; subst h2; subst h3
    exact Or.inr ⟨q, (T.setVm vm₁).calling g' mk As.toArray, t, U', L, E, ce, hT, X', hL, e1, e2, hq, hce, hcv, vx_cls hW₁ hcl, st⟩
end Runs
section Rows
variable {p : Program} {l : Launch} {e : Env} {R : Room} {s : State} {m : MethodId} {args : Array Value} {below : List Frame} {meth : Method} {c : Code} {H : Heap} {locs : List Loc} {cells slots : Nat} {Q : State → Prop}
variable {mc ms : Nat} {free : Addr → Prop} {A0 A1 : Nat → Prop} {H0 : Heap} {a : Array Value} {pc : Nat} {ls : Array Slot} {st0 rest : List Value}
theorem vx_keep {st₀ t T' : State} {L : List Loc} (h0 : st₀.heap = H) (e1 : T'.heap = t.heap) (hS : va_S A0 H0 H locs) (hA : ∀ q, q < H.size → A1 q → A0 q) (hf : ∀ q, free q → A0 q) (hL : ∀ q ∈ L, free q.base) (hF : va_F A1 st₀ t) :
    H.size ≤ T'.heap.size ∧ (∀ q : Nat, q < H.size → ¬ A1 q → T'.heap[q]? = H[q]?) ∧ va_S A0 H0 T'.heap (locs ++ L) := by
  obtain ⟨hz, hk⟩ := hF
  rw [h0] at hz hk
  exact ⟨by rw [e1]; exact hz, fun q h1 h2 => by rw [e1]; exact hk q h1 h2,
    ⟨Nat.le_trans hS.1 (by rw [e1]; exact hz), fun q h1 h2 => by rw [e1, hk q (Nat.lt_of_lt_of_le h1 hS.1) (fun z => h2 (hA q (Nat.lt_of_lt_of_le h1 hS.1) z))]; exact hS.2.1 q h1 h2, fun q hq => by
      rcases List.mem_append.mp hq with h | h
      · exact hS.2.2 q h
      · exact hf _ (hL q h)⟩⟩
theorem vx_calli {S SX : Type} {post : Int32 → S → Prop} {px : SX → Prop} {B : S → State → Prop} {BX : String → SX → State → Prop} {AX : Nat → Prop} (hr : vx_Run p l e R s m args below meth c H locs cells slots mc ms (F0 m pc ls st0) rest (va_Qi post B A1 a) (vx_X px BX AX) free) (hS : va_S A0 H0 H locs) (hA : ∀ q, q < H.size → A1 q → A0 q) (hf : ∀ q, free q → A0 q) (hAX : ∀ q, q < H.size → AX q → A0 q)
    (kx : ∀ (E : String) (ce : Cell) (q9 : Addr) (u : SX) (t : State) (H1 : Heap) (locs1 : List Loc), t.heap = H1 → s.vm.Alike t.vm → px u → BX E u t → H.size ≤ H1.size → (∀ q : Nat, q < H.size → ¬ AX q → H1[q]? = H[q]?) → va_S A0 H0 H1 locs1 → H1[q9]? = some ce → ce.vm = .none → s.vm.findClass E = some ce.cls → vx_W p l e R s m args below meth c H1 locs1 (cells + mc) (slots + ms) Q (F0 m pc ls rest) q9)
    (kk : ∀ (r : Int32) (u : S) (t : State) (H1 : Heap) (locs1 : List Loc), t.heap = H1 → s.vm.Alike t.vm → post r u → B u t → H.size ≤ H1.size → (∀ q : Nat, q < H.size → ¬ A1 q → H1[q]? = H[q]?) → va_S A0 H0 H1 locs1 → W p l e R s m args below meth c H1 locs1 (cells + mc) (slots + ms) Q (F0 m (pc + 3) ls (.int r :: rest))) : W p l e R s m args below meth c H locs cells slots Q (F0 m pc ls st0) := by
  intro T hT X
  rcases hr T hT X with ⟨v, st₀, t, T', L, h0, X', hL, e1, e2, ⟨⟨r, u, hv, hp, hb⟩, hF⟩, st⟩ | ⟨q, st₀, t, T', L, E, ce, h0, X', hL, e1, e2, ⟨u, hp, hb, hF⟩, hce, hcv, hcl, st⟩
  · cases hv
    obtain ⟨k1, k2, k3⟩ := vx_keep h0 e1 hS hA hf hL hF
    obtain ⟨t2, a1, b1⟩ := kk r u t T'.heap (locs ++ L) e1.symm (by rw [← e2]; exact X'.warmed.alike) hp hb k1 k2 k3 T' rfl X'
    exact ⟨t2, st t2 a1, b1⟩
  · obtain ⟨k1, k2, k3⟩ := vx_keep h0 e1 hS hAX hf hL hF
    obtain ⟨t2, a1, b1⟩ := kx E ce q u t T'.heap (locs ++ L) e1.symm (by rw [← e2]; exact X'.warmed.alike) hp hb k1 k2 k3 (by rw [e1]; exact hce) hcv hcl T' rfl X'
    exact ⟨t2, st.trans a1, b1⟩
theorem vx_calll {S SX : Type} {post : Int64 → S → Prop} {px : SX → Prop} {B : S → State → Prop} {BX : String → SX → State → Prop} {AX : Nat → Prop} (hr : vx_Run p l e R s m args below meth c H locs cells slots mc ms (F0 m pc ls st0) rest (va_Ql post B A1 a) (vx_X px BX AX) free) (hS : va_S A0 H0 H locs) (hA : ∀ q, q < H.size → A1 q → A0 q) (hf : ∀ q, free q → A0 q) (hAX : ∀ q, q < H.size → AX q → A0 q)
    (kx : ∀ (E : String) (ce : Cell) (q9 : Addr) (u : SX) (t : State) (H1 : Heap) (locs1 : List Loc), t.heap = H1 → s.vm.Alike t.vm → px u → BX E u t → H.size ≤ H1.size → (∀ q : Nat, q < H.size → ¬ AX q → H1[q]? = H[q]?) → va_S A0 H0 H1 locs1 → H1[q9]? = some ce → ce.vm = .none → s.vm.findClass E = some ce.cls → vx_W p l e R s m args below meth c H1 locs1 (cells + mc) (slots + ms) Q (F0 m pc ls rest) q9)
    (kk : ∀ (r : Int64) (u : S) (t : State) (H1 : Heap) (locs1 : List Loc), t.heap = H1 → s.vm.Alike t.vm → post r u → B u t → H.size ≤ H1.size → (∀ q : Nat, q < H.size → ¬ A1 q → H1[q]? = H[q]?) → va_S A0 H0 H1 locs1 → W p l e R s m args below meth c H1 locs1 (cells + mc) (slots + ms) Q (F0 m (pc + 3) ls (.long r :: rest))) : W p l e R s m args below meth c H locs cells slots Q (F0 m pc ls st0) := by
  intro T hT X
  rcases hr T hT X with ⟨v, st₀, t, T', L, h0, X', hL, e1, e2, ⟨⟨r, u, hv, hp, hb⟩, hF⟩, st⟩ | ⟨q, st₀, t, T', L, E, ce, h0, X', hL, e1, e2, ⟨u, hp, hb, hF⟩, hce, hcv, hcl, st⟩
  · cases hv
    obtain ⟨k1, k2, k3⟩ := vx_keep h0 e1 hS hA hf hL hF
    obtain ⟨t2, a1, b1⟩ := kk r u t T'.heap (locs ++ L) e1.symm (by rw [← e2]; exact X'.warmed.alike) hp hb k1 k2 k3 T' rfl X'
    exact ⟨t2, st t2 a1, b1⟩
  · obtain ⟨k1, k2, k3⟩ := vx_keep h0 e1 hS hAX hf hL hF
    obtain ⟨t2, a1, b1⟩ := kx E ce q u t T'.heap (locs ++ L) e1.symm (by rw [← e2]; exact X'.warmed.alike) hp hb k1 k2 k3 (by rw [e1]; exact hce) hcv hcl T' rfl X'
    exact ⟨t2, st.trans a1, b1⟩
theorem vx_callf {S SX : Type} {post : UInt32 → S → Prop} {px : SX → Prop} {B : S → State → Prop} {BX : String → SX → State → Prop} {AX : Nat → Prop} (hr : vx_Run p l e R s m args below meth c H locs cells slots mc ms (F0 m pc ls st0) rest (va_Qf post B A1 a) (vx_X px BX AX) free) (hS : va_S A0 H0 H locs) (hA : ∀ q, q < H.size → A1 q → A0 q) (hf : ∀ q, free q → A0 q) (hAX : ∀ q, q < H.size → AX q → A0 q)
    (kx : ∀ (E : String) (ce : Cell) (q9 : Addr) (u : SX) (t : State) (H1 : Heap) (locs1 : List Loc), t.heap = H1 → s.vm.Alike t.vm → px u → BX E u t → H.size ≤ H1.size → (∀ q : Nat, q < H.size → ¬ AX q → H1[q]? = H[q]?) → va_S A0 H0 H1 locs1 → H1[q9]? = some ce → ce.vm = .none → s.vm.findClass E = some ce.cls → vx_W p l e R s m args below meth c H1 locs1 (cells + mc) (slots + ms) Q (F0 m pc ls rest) q9)
    (kk : ∀ (r : UInt32) (u : S) (t : State) (H1 : Heap) (locs1 : List Loc), t.heap = H1 → s.vm.Alike t.vm → post r u → B u t → H.size ≤ H1.size → (∀ q : Nat, q < H.size → ¬ A1 q → H1[q]? = H[q]?) → va_S A0 H0 H1 locs1 → W p l e R s m args below meth c H1 locs1 (cells + mc) (slots + ms) Q (F0 m (pc + 3) ls (.float r :: rest))) : W p l e R s m args below meth c H locs cells slots Q (F0 m pc ls st0) := by
  intro T hT X
  rcases hr T hT X with ⟨v, st₀, t, T', L, h0, X', hL, e1, e2, ⟨⟨r, u, hv, hp, hb⟩, hF⟩, st⟩ | ⟨q, st₀, t, T', L, E, ce, h0, X', hL, e1, e2, ⟨u, hp, hb, hF⟩, hce, hcv, hcl, st⟩
  · cases hv
    obtain ⟨k1, k2, k3⟩ := vx_keep h0 e1 hS hA hf hL hF
    obtain ⟨t2, a1, b1⟩ := kk r u t T'.heap (locs ++ L) e1.symm (by rw [← e2]; exact X'.warmed.alike) hp hb k1 k2 k3 T' rfl X'
    exact ⟨t2, st t2 a1, b1⟩
  · obtain ⟨k1, k2, k3⟩ := vx_keep h0 e1 hS hAX hf hL hF
    obtain ⟨t2, a1, b1⟩ := kx E ce q u t T'.heap (locs ++ L) e1.symm (by rw [← e2]; exact X'.warmed.alike) hp hb k1 k2 k3 (by rw [e1]; exact hce) hcv hcl T' rfl X'
    exact ⟨t2, st.trans a1, b1⟩
theorem vx_calld {S SX : Type} {post : UInt64 → S → Prop} {px : SX → Prop} {B : S → State → Prop} {BX : String → SX → State → Prop} {AX : Nat → Prop} (hr : vx_Run p l e R s m args below meth c H locs cells slots mc ms (F0 m pc ls st0) rest (va_Qd post B A1 a) (vx_X px BX AX) free) (hS : va_S A0 H0 H locs) (hA : ∀ q, q < H.size → A1 q → A0 q) (hf : ∀ q, free q → A0 q) (hAX : ∀ q, q < H.size → AX q → A0 q)
    (kx : ∀ (E : String) (ce : Cell) (q9 : Addr) (u : SX) (t : State) (H1 : Heap) (locs1 : List Loc), t.heap = H1 → s.vm.Alike t.vm → px u → BX E u t → H.size ≤ H1.size → (∀ q : Nat, q < H.size → ¬ AX q → H1[q]? = H[q]?) → va_S A0 H0 H1 locs1 → H1[q9]? = some ce → ce.vm = .none → s.vm.findClass E = some ce.cls → vx_W p l e R s m args below meth c H1 locs1 (cells + mc) (slots + ms) Q (F0 m pc ls rest) q9)
    (kk : ∀ (r : UInt64) (u : S) (t : State) (H1 : Heap) (locs1 : List Loc), t.heap = H1 → s.vm.Alike t.vm → post r u → B u t → H.size ≤ H1.size → (∀ q : Nat, q < H.size → ¬ A1 q → H1[q]? = H[q]?) → va_S A0 H0 H1 locs1 → W p l e R s m args below meth c H1 locs1 (cells + mc) (slots + ms) Q (F0 m (pc + 3) ls (.double r :: rest))) : W p l e R s m args below meth c H locs cells slots Q (F0 m pc ls st0) := by
  intro T hT X
  rcases hr T hT X with ⟨v, st₀, t, T', L, h0, X', hL, e1, e2, ⟨⟨r, u, hv, hp, hb⟩, hF⟩, st⟩ | ⟨q, st₀, t, T', L, E, ce, h0, X', hL, e1, e2, ⟨u, hp, hb, hF⟩, hce, hcv, hcl, st⟩
  · cases hv
    obtain ⟨k1, k2, k3⟩ := vx_keep h0 e1 hS hA hf hL hF
    obtain ⟨t2, a1, b1⟩ := kk r u t T'.heap (locs ++ L) e1.symm (by rw [← e2]; exact X'.warmed.alike) hp hb k1 k2 k3 T' rfl X'
    exact ⟨t2, st t2 a1, b1⟩
  · obtain ⟨k1, k2, k3⟩ := vx_keep h0 e1 hS hAX hf hL hF
    obtain ⟨t2, a1, b1⟩ := kx E ce q u t T'.heap (locs ++ L) e1.symm (by rw [← e2]; exact X'.warmed.alike) hp hb k1 k2 k3 (by rw [e1]; exact hce) hcv hcl T' rfl X'
    exact ⟨t2, st.trans a1, b1⟩
theorem vx_callv {S SX : Type} {post : S → Prop} {px : SX → Prop} {B : S → State → Prop} {BX : String → SX → State → Prop} {AX : Nat → Prop} (hr : vx_Run p l e R s m args below meth c H locs cells slots mc ms (F0 m pc ls st0) rest (va_Qv post B A1 a) (vx_X px BX AX) free) (hS : va_S A0 H0 H locs) (hA : ∀ q, q < H.size → A1 q → A0 q) (hf : ∀ q, free q → A0 q) (hAX : ∀ q, q < H.size → AX q → A0 q)
    (kx : ∀ (E : String) (ce : Cell) (q9 : Addr) (u : SX) (t : State) (H1 : Heap) (locs1 : List Loc), t.heap = H1 → s.vm.Alike t.vm → px u → BX E u t → H.size ≤ H1.size → (∀ q : Nat, q < H.size → ¬ AX q → H1[q]? = H[q]?) → va_S A0 H0 H1 locs1 → H1[q9]? = some ce → ce.vm = .none → s.vm.findClass E = some ce.cls → vx_W p l e R s m args below meth c H1 locs1 (cells + mc) (slots + ms) Q (F0 m pc ls rest) q9)
    (kk : ∀ (u : S) (t : State) (H1 : Heap) (locs1 : List Loc), t.heap = H1 → s.vm.Alike t.vm → post u → B u t → H.size ≤ H1.size → (∀ q : Nat, q < H.size → ¬ A1 q → H1[q]? = H[q]?) → va_S A0 H0 H1 locs1 → W p l e R s m args below meth c H1 locs1 (cells + mc) (slots + ms) Q (F0 m (pc + 3) ls (rest))) : W p l e R s m args below meth c H locs cells slots Q (F0 m pc ls st0) := by
  intro T hT X
  rcases hr T hT X with ⟨v, st₀, t, T', L, h0, X', hL, e1, e2, ⟨⟨u, hv, hp, hb⟩, hF⟩, st⟩ | ⟨q, st₀, t, T', L, E, ce, h0, X', hL, e1, e2, ⟨u, hp, hb, hF⟩, hce, hcv, hcl, st⟩
  · cases hv
    obtain ⟨k1, k2, k3⟩ := vx_keep h0 e1 hS hA hf hL hF
    obtain ⟨t2, a1, b1⟩ := kk u t T'.heap (locs ++ L) e1.symm (by rw [← e2]; exact X'.warmed.alike) hp hb k1 k2 k3 T' rfl X'
    exact ⟨t2, st t2 a1, b1⟩
  · obtain ⟨k1, k2, k3⟩ := vx_keep h0 e1 hS hAX hf hL hF
    obtain ⟨t2, a1, b1⟩ := kx E ce q u t T'.heap (locs ++ L) e1.symm (by rw [← e2]; exact X'.warmed.alike) hp hb k1 k2 k3 (by rw [e1]; exact hce) hcv hcl T' rfl X'
    exact ⟨t2, st.trans a1, b1⟩
/-- caught by the row x of this method's table; the rows ahead don't take it -/
theorem vx_catch {own name : String} {E : String} {ce : Cell} {q : Addr} (hown : s.vm.findClass own = some m.cls) (pre : List ExceptionTableEntry) (x : ExceptionTableEntry) (suf : List ExceptionTableEntry) (hsplit : c.exceptionTable.toList = pre ++ x :: suf)
    (hpass : ∀ z ∈ pre, covers z pc = false ∨ (z.catchType ≠ 0 ∧ ∃ nm : String, (Cond.classLink own z.catchType nm).before args s = true ∧ va_Nc E nm s)) (hx : covers x pc = true) (h0 : x.catchType ≠ 0)
    (hlink : (Cond.classLink own x.catchType name).before args s = true) (hcast : (Cond.castable E name).before args s = true) (hcell : H[q]? = some ce) (hv : ce.vm = .none) (hcl : s.vm.findClass E = some ce.cls)
    (kk : W p l e R s m args below meth c H locs cells slots Q (F0 m x.handlerPc ls [.ref q])) : vx_W p l e R s m args below meth c H locs cells slots Q (F0 m pc ls rest) q := by
  intro T hT X
  have hpl : e.platform.magicAccessors = ({} : Platform).magicAccessors := by rw [X.admits.platform]
  obtain ⟨c3, c4, hc3, hc4, hasg⟩ := Cond.castable_spec hcast
  cases Option.some.inj (hc3.symm.trans hcl)
  obtain ⟨c5, hc5, hcl5⟩ := Cond.classLink_spec hown hlink e.platform hpl
  cases Option.some.inj (hc4.symm.trans hc5)
  obtain ⟨vm', X', st⟩ := X.thenCaughtThrough q (g := F0 m pc ls rest) rfl (Steps.refl _) (by rw [hT]; exact hcell) (by rw [hv]; rfl) (by obtain ⟨k9, h9, -⟩ := Vm.findClass_spec hcl; exact ⟨k9, h9⟩) pre x suf hsplit
    (fun z hz => by
      rcases hpass z hz with h | ⟨hz0, nm, hl1, hn1⟩
      · exact Or.inl h
      · obtain ⟨c6, hc6, hcl6⟩ := Cond.classLink_spec hown hl1 e.platform hpl
        obtain ⟨a8, b8, h1, h2, h3⟩ := hn1
        cases Option.some.inj (h1.symm.trans hcl)
        cases Option.some.inj (h2.symm.trans hc6)
        exact Or.inr ⟨hz0, _, hcl6, h3⟩) hx (Or.inr ⟨h0, c4, hcl5, hasg⟩)
  obtain ⟨t, a1, b1⟩ := kk (T.setVm vm') hT X'
  exact ⟨t, st.trans a1, b1⟩
end Rows
section Ends
variable {p : Program} {l : Launch} {e : Env} {R : Room} {s : State} {m : MethodId} {args : Array Value} {below : List Frame} {meth : Method} {c : Code} {H : Heap} {locs : List Loc} {cells slots : Nat} {Q : State → Prop}
variable {mc ms : Nat} {free : Addr → Prop} {A0 A1 : Nat → Prop} {H0 : Heap} {a : Array Value} {ls : Array Slot} {st0 rest : List Value}
variable {Qc : Array Value → State → Outcome → State → Prop} {XC : String → State → State → Prop}
/-- what a body that may throw owes at its end -/
def vx_MQ (below : List Frame) (Qc : Array Value → State → Outcome → State → Prop) (XC : String → State → State → Prop) (a : Array Value) (s : State) (mc ms : Nat) (free : Addr → Prop) : State → Prop := fun t =>
  ∃ o, t.status = .running ∧ Ended t below o ∧ vx_Q Qc XC mc ms free a s o t
theorem vx_ret {g : JFrame} {mc ms : Nat} (k : W p l e R s m args below meth c H locs cells slots (MQ below Qc args s mc ms free) g) : W p l e R s m args below meth c H locs cells slots (vx_MQ below Qc XC args s mc ms free) g := by
  intro T hT X
  obtain ⟨t, a1, o, b1, b2, b3, b4⟩ := k T hT X
  exact ⟨t, a1, o, b1, b2, Or.inl ⟨b3, b4⟩⟩
/-- not caught here: it goes on to the caller -/
theorem vx_widen {g : JFrame} {q : Addr} {k n : Nat} (h1 : cells ≤ k) (h2 : slots ≤ n) (kk : vx_W p l e R s m args below meth c H locs k n Q g q) : vx_W p l e R s m args below meth c H locs cells slots Q g q := fun T hT X => kk T hT (stand_widen X h1 h2)
theorem vx_out {pc : Nat} {E : String} {ce : Cell} {q : Addr} {mc ms : Nat} (hout : ∀ x ∈ c.exceptionTable.toList, covers x pc = false) (hlocks : meth.locks = false) (hcell : H[q]? = some ce) (hv : ce.vm = .none) (hcl : s.vm.findClass E = some ce.cls)
    (hx : ∀ t : State, t.heap = H → s.vm.Alike t.vm → XC E s t) (hf : ∀ z ∈ locs, free z.base) (hc : cells ≤ mc) (hs : slots ≤ ms) :
    vx_W p l e R s m args below meth c H locs cells slots (vx_MQ below Qc XC args s mc ms free) (F0 m pc ls rest) q := by
  intro T hT X
  obtain ⟨st1, hrun, hend, hW, hsm⟩ := X.leaveThrown q (g := F0 m pc ls rest) rfl rfl rfl hout hlocks
  have hcell9 : (T.setFrames (.throwing q :: below)).heap[q]? = some ce := by
    show T.heap[q]? = some ce
    rw [hT]; exact hcell
  exact ⟨_, st1, .threw q, hrun, hend, Or.inr ⟨q, rfl, E, ce, locs, hx _ hT hW.alike, hcell9, hv, hcl, hW, hsm.mono hc hs, hf⟩⟩
theorem vx_frame {U : State} {k n : Nat} (h : s.sameButNew ({ U with vm := s.vm } : State) locs k n) : s.heap.size ≤ U.heap.size ∧ ∀ q : Nat, q < s.heap.size → (∀ z ∈ locs, z.base ≠ q) → U.heap[q]? = s.heap[q]? := by
  obtain ⟨-, h2, -, -, -, h6⟩ := h
  refine ⟨h2, fun q hq hz => ?_⟩
  obtain ⟨c9, e1, e2, e3, e4⟩ := h6 q _ (Array.getElem?_eq_getElem hq)
  have hs : c9.slots = (s.heap[q]).slots := Array.ext_getElem? fun i => e4 i fun hm => hz _ hm rfl
  have h9 : c9 = s.heap[q] := by
    rw [hs] at e2
    exact e2
  have e5 : U.heap[q]? = some c9 := e1
  rw [e5, h9, Array.getElem?_eq_getElem hq]
/-- the words of a throw but the four that speak of the heap -/
def vx_no (w : Cond) : Bool := decide (w ≠ .isRef (.static Bundle.tN "UNASSIGNED_STACK" Bundle.steD)) && decide (w ≠ .isRef (.static Bundle.tN "SUPPRESSED_SENTINEL" Bundle.listD)) && decide (w ≠ .laysStatic Bundle.tN "UNASSIGNED_STACK" Bundle.steD) && decide (w ≠ .laysStatic Bundle.tN "SUPPRESSED_SENTINEL" Bundle.listD)
def vx_at0 (own : String) (ic : Nat) (X : String) (names : List String) : List Cond := (Bundle.ownAtoms0 own ic X names).filter vx_no
def vx_atS (own : String) (ic : Nat) (X : String) (names : List String) : List Cond := (Bundle.ownAtoms own ic X names).filter vx_no
/-- a word that the tables alone decide, or a good one -/
def vx_ot (w : Cond) : Bool := w.onTables || goodWord w
theorem vx_ot_at {args a' : Array Value} {s U : State} {w : Cond} (hW : s.WarmedH U.vm) (hvm : s.vm = U.vm) (hg : vx_ot w = true) (h : w.before args s = true) : w.before a' U = true := by
  simp only [vx_ot, Bool.or_eq_true] at hg
  rcases hg with hg | hg
  · exact va_tabs hg hvm h
  · exact word_at hW (good_of_word hg) h
/-- a list's words: the good ones out of the method's own list, the others by premises of their own -/
theorem vx_hat {args : Array Value} {s : State} {L B : List Cond} (h1 : ∀ w ∈ L.filter goodWord, w.before args s = true) (h2 : ∀ w ∈ L.filter (fun w => !goodWord w), w ∈ B) (h3 : ∀ w ∈ B, w.before args s = true) : ∀ w ∈ L, w.before args s = true := by
  intro w hw
  by_cases g : goodWord w = true
  · exact h1 w (List.mem_filter.mpr ⟨hw, g⟩)
  · refine h3 w (h2 w (List.mem_filter.mpr ⟨hw, ?_⟩))
    show (!goodWord w) = true
    cases hgw : goodWord w
    · rfl
    · exact absurd hgw g
theorem vx_c {args : Array Value} {s : State} {w : Cond} {B : List Cond} (h : w.before args s = true) (t : ∀ w ∈ B, w.before args s = true) : ∀ w' ∈ w :: B, w'.before args s = true := fun w' h' => (List.mem_cons.mp h').elim (fun e => by rw [e]; exact h) (t w')
theorem vx_n {args : Array Value} {s : State} : ∀ w ∈ ([] : List Cond), w.before args s = true := fun _ h => nomatch h
theorem vx_own {args : Array Value} {s : State} {L : List Cond} (h1 : ∀ w ∈ L.filter vx_no, w.before args s = true)
    (hU : (Cond.isRef (.static Bundle.tN "UNASSIGNED_STACK" Bundle.steD)).before args s = true) (hN : (Cond.isRef (.static Bundle.tN "SUPPRESSED_SENTINEL" Bundle.listD)).before args s = true)
    (lU : (Cond.laysStatic Bundle.tN "UNASSIGNED_STACK" Bundle.steD).before args s = true) (lN : (Cond.laysStatic Bundle.tN "SUPPRESSED_SENTINEL" Bundle.listD).before args s = true) : ∀ w ∈ L, w.before args s = true := by
  intro w hw
  by_cases e1 : w = .isRef (.static Bundle.tN "UNASSIGNED_STACK" Bundle.steD)
  · rw [e1]; exact hU
  · by_cases e2 : w = .isRef (.static Bundle.tN "SUPPRESSED_SENTINEL" Bundle.listD)
    · rw [e2]; exact hN
    · by_cases e3 : w = .laysStatic Bundle.tN "UNASSIGNED_STACK" Bundle.steD
      · rw [e3]; exact lU
      · by_cases e4 : w = .laysStatic Bundle.tN "SUPPRESSED_SENTINEL" Bundle.listD
        · rw [e4]; exact lN
        · exact h1 w (List.mem_filter.mpr ⟨hw, by unfold vx_no; rw [decide_eq_true e1, decide_eq_true e2, decide_eq_true e3, decide_eq_true e4]; rfl⟩)
/-- where a static field lies, its class's statics cell in H -/
def vx_L (C n d : String) (A : Nat → Prop) (U : State) (H : Heap) : Prop := ∃ (c : ClassId) (k : Class) (i : Nat) (f : Field) (a : Nat) (cell : Cell), U.vm.findClass C = some c ∧ U.fieldFound? C n d = some (c, k, i, f) ∧ f.isStatic = true ∧ k.statics = some a ∧ H[a]? = some cell ∧ cell.vm.isStatics = true ∧ cell.cls = c ∧ f.slot < cell.slots.size ∧ k.staticTypes[f.slot]? = some f.type ∧ ¬ A a
theorem vx_L.moved {C n d : String} {A : Nat → Prop} {u U : State} {H : Heap} (hvm : u.vm.Alike U.vm) (h : vx_L C n d A u H) : vx_L C n d A U H := by
  obtain ⟨c, k, i, f, a, cell, h1, h2, h3, h4, h5, h6, h7, h8, h9, h10⟩ := h
  obtain ⟨k', hi', he⟩ := State.fieldFound?_setVm hvm h2
  exact ⟨c, k', i, f, a, cell, by rw [hvm.findClass]; exact h1, hi', h3, by rw [he]; exact h4, h5, h6, h7, h8, by rw [he]; exact h9, h10⟩
theorem vx_L.kept {C n d : String} {A : Nat → Prop} {U : State} {H H1 : Heap} (h : vx_L C n d A U H) (hq : ∀ a : Nat, a < H.size → ¬ A a → H1[a]? = H[a]?) : vx_L C n d A U H1 := by
  obtain ⟨c, k, i, f, a, cell, h1, h2, h3, h4, h5, h6, h7, h8, h9, h10⟩ := h
  exact ⟨c, k, i, f, a, cell, h1, h2, h3, h4, by rw [hq a (Array.getElem?_eq_some_iff.mp h5).1 h10]; exact h5, h6, h7, h8, h9, h10⟩
theorem vx_L.narrow {C n d : String} {A B : Nat → Prop} {U : State} {H : Heap} (h : vx_L C n d A U H) (hAB : ∀ q, B q → A q) : vx_L C n d B U H := by
  obtain ⟨c, k, i, f, a, cell, h1, h2, h3, h4, h5, h6, h7, h8, h9, h10⟩ := h
  exact ⟨c, k, i, f, a, cell, h1, h2, h3, h4, h5, h6, h7, h8, h9, fun z => h10 (hAB _ z)⟩
theorem vx_L.word {C n d : String} {A : Nat → Prop} {s : State} {args : Array Value} (h : vx_L C n d A s s.heap) : (Cond.laysStatic C n d).before args s = true := by
  obtain ⟨c, k, i, f, a, cell, h1, h2, h3, h4, h5, h6, h7, h8, h9, -⟩ := h
  show (Cond.laysStatic C n d).holds args s none s [] = true
  exact Cond.laysStatic_of h1 h2 h3 h4 h5 h6 h7 h8 h9
/-- .. and what it holds: null or some reference -/
def vx_Zq (C n d : String) (A : Nat → Prop) (U : State) (H : Heap) : Prop := va_Zq C n d A U H ∧ vx_L C n d A U H
theorem vx_Zq.moved {C n d : String} {A : Nat → Prop} {u U : State} {H : Heap} (hvm : u.vm.Alike U.vm) (h : vx_Zq C n d A u H) : vx_Zq C n d A U H := ⟨va_Zq.moved hvm h.1, vx_L.moved hvm h.2⟩
theorem vx_Zq.kept {C n d : String} {A : Nat → Prop} {U : State} {H H1 : Heap} (h : vx_Zq C n d A U H) (hq : ∀ a : Nat, a < H.size → ¬ A a → H1[a]? = H[a]?) : vx_Zq C n d A U H1 := ⟨va_Zq.kept h.1 hq, vx_L.kept h.2 hq⟩
theorem vx_Zq.narrow {C n d : String} {A B : Nat → Prop} {U : State} {H : Heap} (h : vx_Zq C n d A U H) (hAB : ∀ q, B q → A q) : vx_Zq C n d B U H := ⟨va_Zq.narrow h.1 hAB, vx_L.narrow h.2 hAB⟩
theorem vx_Zqof {args : Array Value} {s : State} {C n d : String} {A : Nat → Prop} (hl : (Cond.laysStatic C n d).before args s = true) (hini : (Cond.initialized C).before args s = true) (h : (Cond.isRef (.static C n d)).before args s = true) (hA : ∀ a : Nat, a < s.heap.size → ¬ A a) : vx_Zq C n d A s s.heap := by
  refine ⟨va_Zqof hl hini h hA, ?_⟩
  obtain ⟨c, k, i, f, a, cell, h1, h2, h3, h4, h5, h6, h7, h8, h9⟩ := Cond.laysStatic_spec hl
  exact ⟨c, k, i, f, a, cell, h1, h2, h3, h4, h5, h6, h7, h8, h9, hA a (Array.getElem?_eq_some_iff.mp h5).1⟩
theorem vx_isRef {C n d : String} {v : Value} {A : Nat → Prop} {s : State} {args : Array Value} (h : va_Z C n d v A s s.heap) (hv : v.isRef = true) : (Cond.isRef (.static C n d)).before args s = true := by
  obtain ⟨cf, kf, fi, f, a, cell, h1, h2, h3, h4, h5, h6, h7, -⟩ := h
  have he : (Term.static C n d).eval args s none [] s = some v := by
    simp [Term.eval, State.fieldNamed?, h1, h2, h4, h5, h6, h7]
  simp only [Cond.before, Cond.holds, Cond.value, he]
  cases v <;> simp_all [Value.isRef]
theorem vx_isRefq {C n d : String} {A : Nat → Prop} {s : State} {args : Array Value} (h : va_Zq C n d A s s.heap) : (Cond.isRef (.static C n d)).before args s = true := by
  rcases h with h | ⟨t, h⟩
  · exact vx_isRef h rfl
  · exact vx_isRef h rfl
/-- the same frame, seen from here: as if the method were called anew in this heap -/
theorem vx_rebase {T : State} (X : Stand p l e R s m args below meth c T locs cells slots) {R' : Room} (hf : R'.frames ≤ R.frames) (hl : R'.locals ≤ R.locals) (hc : cells + R'.cells ≤ R.cells) (hs : slots + R'.slots ≤ R.slots) :
    Stand p l e R' ((T.setVm s.vm).setFrames (.invoking m args :: below)) m args below meth c T [] 0 0 := by
  have htop : (T.setVm s.vm).topJava?.isSome := X.here.top
  have hF : ((T.setVm s.vm).setFrames (.invoking m args :: below)).frames = .invoking m args :: below := State.frames_setFrames _ (State.cur_lt_of_top htop)
  obtain ⟨g₀, hg0⟩ := Option.isSome_iff_exists.mp htop
  obtain ⟨r, hr⟩ := State.topJava?_eq_some.mp hg0
  have hl9 : e.platform.stackLimits (T.setVm s.vm).me = e.platform.stackLimits s.me := X.limits
  have hb9 : (T.setVm s.vm).me.stackBytes = s.me.stackBytes := X.bytes
  refine ⟨X.admits, X.cas, X.clock, hF, ?_, X.hears, X.method, X.code, X.here, X.tail, X.warmed, ?_, ?_, ?_⟩
  · have h := X.room
    have hU : ((T.setVm s.vm).setFrames (.invoking m args :: below)).localsInUse = s.localsInUse := by
      rw [State.localsInUse_invoking hF (meth := meth) (c := c) X.method X.code, State.localsInUse_invoking X.frames X.method X.code]
    simp only [State.hasRoom, Bool.and_eq_true, decide_eq_true_eq] at h ⊢
    obtain ⟨⟨⟨⟨h1, h2, h3, h4, h5, h6⟩, h7⟩, h8⟩, h9⟩ := h
    rw [X.frames, List.length_cons] at h2 h3
    have q1 := X.heapSize
    have q2 := X.used
    simp only [hF, hU, List.length_cons, State.stackLimits_setFrames, State.stackBytes_setFrames, hl9, hb9]
    refine ⟨⟨⟨⟨by omega, by omega, by omega, by omega, by omega, h6⟩, ?_⟩, ?_⟩, X.book⟩
    · show T.heap.size + R'.cells ≤ e.platform.maxCells
      omega
    · show T.slotsUsed + R'.slots ≤ e.platform.maxSlots
      omega
  · rw [State.stackLimits_setFrames]; rfl
  · rw [State.stackBytes_setFrames]; rfl
  · refine ⟨?_, Nat.le_refl _, Nat.le_refl _, ?_, ?_, fun a c9 h9 => ⟨c9, h9, rfl, rfl, fun _ _ => rfl⟩⟩
    · obtain ⟨t, ht, -⟩ := State.frames_cons hr
      show T.setVm s.vm = { ((T.setVm s.vm).setFrames (.invoking m args :: below)).setFrames (T.setVm s.vm).frames with heap := T.heap, slotsUsed := T.slotsUsed }
      rw [State.setFrames_setFrames, State.setFrames_self ht]
      rfl
    · show T.slotsUsed = T.slotsUsed + ((T.heap.toList.drop T.heap.size).map (·.slots.size)).sum
      rw [List.drop_eq_nil_of_le (Nat.le_of_eq Array.length_toList)]
      rfl
    · show ((T.heap.toList.drop T.heap.size).map (·.slots.size)).sum ≤ 0
      rw [List.drop_eq_nil_of_le (Nat.le_of_eq Array.length_toList)]
      exact Nat.le_refl _
/-- 'throw new E()': new; dup; invokespecial; athrow -/
theorem vx_throw0 {cc : ByteArray} {pc : Nat} (hexec : p.tables.exec = Jvm.exec) (hb : c.code = cc) (hl : l.stackTraces = false) {own cls : String} {names : List String} {ik ic mc ms : Nat} {A : Nat → Prop}
    (hown : s.vm.findClass own = some m.cls) (hcls : Bundle.fit cls = true) (hnames : ∀ n ∈ names, Bundle.fit n = true)
    (hk : (Cond.classLink own ik cls).before args s = true) (hini : (Cond.initialized cls).before args s = true) (hat : ∀ w ∈ vx_at0 own ic cls names, w.before args s = true)
    (hgood : ∀ w ∈ Cond.classLink own ik cls :: Cond.initialized cls :: vx_at0 own ic cls names, vx_ot w = true)
    (hU : vx_Zq Bundle.tN "UNASSIGNED_STACK" Bundle.steD A s s.heap) (hN : vx_Zq Bundle.tN "SUPPRESSED_SENTINEL" Bundle.listD A s s.heap) (hS : va_S A s.heap H locs) (hsize : ls.size = c.maxLocals)
    (d0 : decode cc pc = .ok (.new ik, 3)) (d3 : decode cc (pc + 3) = .ok (.dup, 1)) (d4 : decode cc (pc + 4) = .ok (.invokespecial ic, 3)) (d7 : decode cc (pc + 7) = .ok (.athrow, 1))
    (hout : ∀ x ∈ c.exceptionTable.toList, covers x (pc + 7) = false)
    (hRframes : names.length + 3 < R.frames) (hRlocals : (rest.map fun v => v.category).sum + (13 * (names.length + 1) + 42) ≤ R.locals) (hRcells : cells + 1 ≤ R.cells) (hRslots : slots + 6 ≤ R.slots) (hlocks : meth.locks = false)
    (hx : ∀ t : State, s.vm.Alike t.vm → H.size ≤ t.heap.size → (∀ q : Nat, q < H.size → t.heap[q]? = H[q]?) → XC cls s t)
    (hf : ∀ z ∈ locs, free z.base) (hc : cells + 1 ≤ mc) (hs : slots + 6 ≤ ms) :
    W p l e R s m args below meth c H locs cells slots (vx_MQ below Qc XC args s mc ms free) (F0 m pc ls rest) := by
  intro T hT X
  have htr : e.platform.stackTraces = false := (show e.platform.stackTraces = l.stackTraces by rw [X.admits.platform]).trans hl
  have Y := vx_rebase X (R' := { frames := R.frames, locals := R.locals, cells := 1, slots := 6 }) (Nat.le_refl _) (Nat.le_refl _) hRcells hRslots
  obtain ⟨s', hA⟩ : ∃ z, z = (T.setVm s.vm).setFrames (.invoking m args :: below) := ⟨_, rfl⟩
  rw [← hA] at Y
  have hvm : s'.vm = s.vm := by rw [hA]; rfl
  have hhp : s'.heap = H := by rw [hA]; exact hT
  have hW0 : s.WarmedH s'.vm := by rw [hvm]; exact State.WarmedH.refl s
  have hat' : ∀ w ∈ vx_at0 own ic cls names, w.before args s' = true := fun w hw => vx_ot_at hW0 hvm.symm (hgood w (List.mem_cons_of_mem _ (List.mem_cons_of_mem _ hw))) (hat w hw)
  have hk' : (Cond.classLink own ik cls).before args s' = true := vx_ot_at hW0 hvm.symm (hgood _ List.mem_cons_self) hk
  have hini' : (Cond.initialized cls).before args s' = true := vx_ot_at hW0 hvm.symm (hgood _ (List.mem_cons_of_mem _ List.mem_cons_self)) hini
  have hU' : vx_Zq Bundle.tN "UNASSIGNED_STACK" Bundle.steD A s' s'.heap := by rw [hhp]; exact vx_Zq.moved hW0.alike (hU.kept hS.2.1)
  have hN' : vx_Zq Bundle.tN "SUPPRESSED_SENTINEL" Bundle.listD A s' s'.heap := by rw [hhp]; exact vx_Zq.moved hW0.alike (hN.kept hS.2.1)
  have h : ∀ w ∈ Bundle.ownAtoms0 own ic cls names, w.before args s' = true := vx_own hat' (vx_isRefq hU'.1) (vx_isRefq hN'.1) hU'.2.word hN'.2.word
  have hown' : s'.vm.findClass own = some m.cls := by rw [hvm]; exact hown
  have hins : (Cond.instantiable cls 6).before args s' = true := h _ (by simp [Bundle.ownAtoms0])
  obtain ⟨vm₁, cX, kX, hfX, hkX, -, -, X₁, st1⟩ := Y.newCold hexec (own := own) (C := cls) (index := ik) (n := 6) hown' hk' hins hini'
    (g := F0 m pc ls rest) rfl (by rw [hb]; exact d0) (Nat.le_refl _) (Nat.le_refl _)
  generalize hT1 : (T.setVm vm₁).pushCell { cls := cX, slots := kX.instanceTypes.map defaultValue, vm := .none } = T1 at X₁ st1
  have hcat : (Value.ref T.heap.size).category = 1 := rfl
  have hcellA : T1.heap[T.heap.size]? = some (freshCell cX kX) := by rw [← hT1]; exact State.heap_pushCell_size _ _
  have d3' : decode c.code (pc + 3) = .ok (.dup, 1) := by rw [hb]; exact d3
  obtain ⟨U, hsteps, hrun, hend, hW, hsame, ce, hce, hO⟩ := X₁.ctorThrow0 hexec htr (own := own) (cls := cls) (names := names) (ic := ic) hown' hcls hnames h (fun x hx => nomatch hx) hfX hkX hcellA (by rw [hhp, hT]; exact Nat.le_refl _)
    (g := { method := m, pc := pc + 4, locals := ls, stack := .ref T.heap.size :: .ref T.heap.size :: rest, locked := none }) rfl hsize rfl rfl (rest := rest) rfl
    (by rw [hb]; exact d4) (by rw [hb]; exact d7) hout hRframes (by simp only [List.map_cons, List.sum_cons, hcat]; omega) hlocks
  obtain ⟨f1, f2⟩ := vx_frame hsame
  rw [hhp] at f1 f2
  have hWs : s.WarmedH U.vm := State.WarmedH.trans hW0 hW
  have hcl : s.vm.findClass cls = some ce.cls := by
    have h9 := hO.cls
    rw [hvm] at h9
    exact h9
  have hall : s.sameButNew ({ U with vm := s.vm } : State) locs mc ms := by
    subst hA
    obtain ⟨e1, e2⟩ := hsame
    rw [State.setFrames_setFrames] at e1
    have h2 : (T.setVm s.vm).sameButNew ({ U with vm := s.vm } : State) [] (0 + 1) (0 + 6) := ⟨e1, e2⟩
    have h3 := X.same.trans h2
    rw [List.append_nil] at h3
    exact h3.mono hc hs
  refine ⟨U, ?_, .threw T.heap.size, hrun, hend, Or.inr ⟨T.heap.size, rfl, cls, ce, locs, hx U hWs.alike f1 (fun q hq => f2 q hq (fun z hz => nomatch hz)), hce, hO.vm, hcl, hWs, hall, hf⟩⟩
  refine st1 _ ?_
  show Steps p.tables e below (T1.setTop { method := m, pc := pc + 3, locals := ls, stack := .ref T.heap.size :: rest, locked := none }) _
  jvm_step X₁.here [X₁.here.top, hexec, d3', Value.category]
  exact hsteps
/-- 'throw new E("text")': new; dup; ldc; invokespecial; athrow -/
theorem vx_throwS {cc : ByteArray} {pc : Nat} (hexec : p.tables.exec = Jvm.exec) (hb : c.code = cc) (hl : l.stackTraces = false) {own cls text : String} {names : List String} {ik is ic mc ms sa : Nat} {A : Nat → Prop}
    (hown : s.vm.findClass own = some m.cls) (hcls : Bundle.fit cls = true) (hnames : ∀ n ∈ names, Bundle.fit n = true)
    (hk : (Cond.classLink own ik cls).before args s = true) (hini : (Cond.initialized cls).before args s = true) (hstr : vk_R own is text sa s) (hat : ∀ w ∈ vx_atS own ic cls names, w.before args s = true)
    (hgood : ∀ w ∈ Cond.classLink own ik cls :: Cond.initialized cls :: vx_atS own ic cls names, vx_ot w = true)
    (hU : vx_Zq Bundle.tN "UNASSIGNED_STACK" Bundle.steD A s s.heap) (hN : vx_Zq Bundle.tN "SUPPRESSED_SENTINEL" Bundle.listD A s s.heap) (hS : va_S A s.heap H locs) (hsize : ls.size = c.maxLocals)
    (d0 : decode cc pc = .ok (.new ik, 3)) (d3 : decode cc (pc + 3) = .ok (.dup, 1)) (d4 : decode cc (pc + 4) = .ok (.ldc is, 2)) (d6 : decode cc (pc + 6) = .ok (.invokespecial ic, 3)) (d9 : decode cc (pc + 9) = .ok (.athrow, 1))
    (hout : ∀ x ∈ c.exceptionTable.toList, covers x (pc + 9) = false)
    (hRframes : names.length + 3 < R.frames) (hRlocals : (rest.map fun v => v.category).sum + (13 * (names.length + 1) + 43) ≤ R.locals) (hRcells : cells + 1 ≤ R.cells) (hRslots : slots + 6 ≤ R.slots) (hlocks : meth.locks = false)
    (hx : ∀ t : State, s.vm.Alike t.vm → H.size ≤ t.heap.size → (∀ q : Nat, q < H.size → t.heap[q]? = H[q]?) → XC cls s t)
    (hf : ∀ z ∈ locs, free z.base) (hc : cells + 1 ≤ mc) (hs : slots + 6 ≤ ms) :
    W p l e R s m args below meth c H locs cells slots (vx_MQ below Qc XC args s mc ms free) (F0 m pc ls rest) := by
  intro T hT X
  have htr : e.platform.stackTraces = false := (show e.platform.stackTraces = l.stackTraces by rw [X.admits.platform]).trans hl
  have Y := vx_rebase X (R' := { frames := R.frames, locals := R.locals, cells := 1, slots := 6 }) (Nat.le_refl _) (Nat.le_refl _) hRcells hRslots
  obtain ⟨s', hA⟩ : ∃ z, z = (T.setVm s.vm).setFrames (.invoking m args :: below) := ⟨_, rfl⟩
  rw [← hA] at Y
  have hvm : s'.vm = s.vm := by rw [hA]; rfl
  have hhp : s'.heap = H := by rw [hA]; exact hT
  have hW0 : s.WarmedH s'.vm := by rw [hvm]; exact State.WarmedH.refl s
  have hat' : ∀ w ∈ vx_atS own ic cls names, w.before args s' = true := fun w hw => vx_ot_at hW0 hvm.symm (hgood w (List.mem_cons_of_mem _ (List.mem_cons_of_mem _ hw))) (hat w hw)
  have hk' : (Cond.classLink own ik cls).before args s' = true := vx_ot_at hW0 hvm.symm (hgood _ List.mem_cons_self) hk
  have hini' : (Cond.initialized cls).before args s' = true := vx_ot_at hW0 hvm.symm (hgood _ (List.mem_cons_of_mem _ List.mem_cons_self)) hini
  have hU' : vx_Zq Bundle.tN "UNASSIGNED_STACK" Bundle.steD A s' s'.heap := by rw [hhp]; exact vx_Zq.moved hW0.alike (hU.kept hS.2.1)
  have hN' : vx_Zq Bundle.tN "SUPPRESSED_SENTINEL" Bundle.listD A s' s'.heap := by rw [hhp]; exact vx_Zq.moved hW0.alike (hN.kept hS.2.1)
  have h : ∀ w ∈ Bundle.ownAtoms own ic cls names, w.before args s' = true := vx_own hat' (vx_isRefq hU'.1) (vx_isRefq hN'.1) hU'.2.word hN'.2.word
  have hown' : s'.vm.findClass own = some m.cls := by rw [hvm]; exact hown
  have hins : (Cond.instantiable cls 6).before args s' = true := h _ (by simp [Bundle.ownAtoms])
  obtain ⟨vm₁, cX, kX, hfX, hkX, -, -, X₁, st1⟩ := Y.newCold hexec (own := own) (C := cls) (index := ik) (n := 6) hown' hk' hins hini'
    (g := F0 m pc ls rest) rfl (by rw [hb]; exact d0) (Nat.le_refl _) (Nat.le_refl _)
  generalize hT1 : (T.setVm vm₁).pushCell { cls := cX, slots := kX.instanceTypes.map defaultValue, vm := .none } = T1 at X₁ st1
  have hcat : (Value.ref T.heap.size).category = 1 := rfl
  have hcellA : T1.heap[T.heap.size]? = some (freshCell cX kX) := by rw [← hT1]; exact State.heap_pushCell_size _ _
  have d3' : decode c.code (pc + 3) = .ok (.dup, 1) := by rw [hb]; exact d3
  have d4' : decode c.code (pc + 4) = .ok (.ldc is, 2) := by rw [hb]; exact d4
  have hstr' : vk_R own is text sa s' := vk_R.warm hW0 hstr
  obtain ⟨U, hsteps, hrun, hend, hW, hsame, ce, hce, hO⟩ := X₁.ctorThrowS hexec htr (own := own) (cls := cls) (names := names) (ic := ic) hown' hcls hnames h (fun x hx => nomatch hx) hfX hkX hcellA (by rw [hhp, hT]; exact Nat.le_refl _) (msg := .ref sa) rfl
    (g := { method := m, pc := pc + 6, locals := ls, stack := .ref sa :: .ref T.heap.size :: .ref T.heap.size :: rest, locked := none }) rfl hsize rfl rfl (rest := rest) rfl
    (by rw [hb]; exact d6) (by rw [hb]; exact d9) hout hRframes (by simp only [List.map_cons, List.sum_cons, hcat]; omega) hlocks
  obtain ⟨f1, f2⟩ := vx_frame hsame
  rw [hhp] at f1 f2
  have hWs : s.WarmedH U.vm := State.WarmedH.trans hW0 hW
  have hcl : s.vm.findClass cls = some ce.cls := by
    have h9 := hO.cls
    rw [hvm] at h9
    exact h9
  have hall : s.sameButNew ({ U with vm := s.vm } : State) locs mc ms := by
    subst hA
    obtain ⟨e1, e2⟩ := hsame
    rw [State.setFrames_setFrames] at e1
    have h2 : (T.setVm s.vm).sameButNew ({ U with vm := s.vm } : State) [] (0 + 1) (0 + 6) := ⟨e1, e2⟩
    have h3 := X.same.trans h2
    rw [List.append_nil] at h3
    exact h3.mono hc hs
  refine ⟨U, ?_, .threw T.heap.size, hrun, hend, Or.inr ⟨T.heap.size, rfl, cls, ce, locs, hx U hWs.alike f1 (fun q hq => f2 q hq (fun z hz => nomatch hz)), hce, hO.vm, hcl, hWs, hall, hf⟩⟩
  refine st1 _ ?_
  show Steps p.tables e below (T1.setTop { method := m, pc := pc + 3, locals := ls, stack := .ref T.heap.size :: rest, locked := none }) _
  jvm_step X₁.here [X₁.here.top, hexec, d3', Value.category]
  exact X₁.ldcString hexec (own := own) (text := text) (index := is) (a := sa) hown' hstr'.1 hstr'.2
    (g := { method := m, pc := pc + 4, locals := ls, stack := .ref T.heap.size :: .ref T.heap.size :: rest, locked := none }) rfl d4' _ hsteps
/-- 'throw new E("text")', the text by a wide index -/
theorem vx_throwSW {cc : ByteArray} {pc : Nat} (hexec : p.tables.exec = Jvm.exec) (hb : c.code = cc) (hl : l.stackTraces = false) {own cls text : String} {names : List String} {ik is ic mc ms sa : Nat} {A : Nat → Prop}
    (hown : s.vm.findClass own = some m.cls) (hcls : Bundle.fit cls = true) (hnames : ∀ n ∈ names, Bundle.fit n = true)
    (hk : (Cond.classLink own ik cls).before args s = true) (hini : (Cond.initialized cls).before args s = true) (hstr : vk_R own is text sa s) (hat : ∀ w ∈ vx_atS own ic cls names, w.before args s = true)
    (hgood : ∀ w ∈ Cond.classLink own ik cls :: Cond.initialized cls :: vx_atS own ic cls names, vx_ot w = true)
    (hU : vx_Zq Bundle.tN "UNASSIGNED_STACK" Bundle.steD A s s.heap) (hN : vx_Zq Bundle.tN "SUPPRESSED_SENTINEL" Bundle.listD A s s.heap) (hS : va_S A s.heap H locs) (hsize : ls.size = c.maxLocals)
    (d0 : decode cc pc = .ok (.new ik, 3)) (d3 : decode cc (pc + 3) = .ok (.dup, 1)) (d4 : decode cc (pc + 4) = .ok (.ldc_w is, 3)) (d7 : decode cc (pc + 7) = .ok (.invokespecial ic, 3)) (d10 : decode cc (pc + 10) = .ok (.athrow, 1))
    (hout : ∀ x ∈ c.exceptionTable.toList, covers x (pc + 10) = false)
    (hRframes : names.length + 3 < R.frames) (hRlocals : (rest.map fun v => v.category).sum + (13 * (names.length + 1) + 43) ≤ R.locals) (hRcells : cells + 1 ≤ R.cells) (hRslots : slots + 6 ≤ R.slots) (hlocks : meth.locks = false)
    (hx : ∀ t : State, s.vm.Alike t.vm → H.size ≤ t.heap.size → (∀ q : Nat, q < H.size → t.heap[q]? = H[q]?) → XC cls s t)
    (hf : ∀ z ∈ locs, free z.base) (hc : cells + 1 ≤ mc) (hs : slots + 6 ≤ ms) :
    W p l e R s m args below meth c H locs cells slots (vx_MQ below Qc XC args s mc ms free) (F0 m pc ls rest) := by
  intro T hT X
  have htr : e.platform.stackTraces = false := (show e.platform.stackTraces = l.stackTraces by rw [X.admits.platform]).trans hl
  have Y := vx_rebase X (R' := { frames := R.frames, locals := R.locals, cells := 1, slots := 6 }) (Nat.le_refl _) (Nat.le_refl _) hRcells hRslots
  obtain ⟨s', hA⟩ : ∃ z, z = (T.setVm s.vm).setFrames (.invoking m args :: below) := ⟨_, rfl⟩
  rw [← hA] at Y
  have hvm : s'.vm = s.vm := by rw [hA]; rfl
  have hhp : s'.heap = H := by rw [hA]; exact hT
  have hW0 : s.WarmedH s'.vm := by rw [hvm]; exact State.WarmedH.refl s
  have hat' : ∀ w ∈ vx_atS own ic cls names, w.before args s' = true := fun w hw => vx_ot_at hW0 hvm.symm (hgood w (List.mem_cons_of_mem _ (List.mem_cons_of_mem _ hw))) (hat w hw)
  have hk' : (Cond.classLink own ik cls).before args s' = true := vx_ot_at hW0 hvm.symm (hgood _ List.mem_cons_self) hk
  have hini' : (Cond.initialized cls).before args s' = true := vx_ot_at hW0 hvm.symm (hgood _ (List.mem_cons_of_mem _ List.mem_cons_self)) hini
  have hU' : vx_Zq Bundle.tN "UNASSIGNED_STACK" Bundle.steD A s' s'.heap := by rw [hhp]; exact vx_Zq.moved hW0.alike (hU.kept hS.2.1)
  have hN' : vx_Zq Bundle.tN "SUPPRESSED_SENTINEL" Bundle.listD A s' s'.heap := by rw [hhp]; exact vx_Zq.moved hW0.alike (hN.kept hS.2.1)
  have h : ∀ w ∈ Bundle.ownAtoms own ic cls names, w.before args s' = true := vx_own hat' (vx_isRefq hU'.1) (vx_isRefq hN'.1) hU'.2.word hN'.2.word
  have hown' : s'.vm.findClass own = some m.cls := by rw [hvm]; exact hown
  have hins : (Cond.instantiable cls 6).before args s' = true := h _ (by simp [Bundle.ownAtoms])
  obtain ⟨vm₁, cX, kX, hfX, hkX, -, -, X₁, st1⟩ := Y.newCold hexec (own := own) (C := cls) (index := ik) (n := 6) hown' hk' hins hini'
    (g := F0 m pc ls rest) rfl (by rw [hb]; exact d0) (Nat.le_refl _) (Nat.le_refl _)
  generalize hT1 : (T.setVm vm₁).pushCell { cls := cX, slots := kX.instanceTypes.map defaultValue, vm := .none } = T1 at X₁ st1
  have hcat : (Value.ref T.heap.size).category = 1 := rfl
  have hcellA : T1.heap[T.heap.size]? = some (freshCell cX kX) := by rw [← hT1]; exact State.heap_pushCell_size _ _
  have d3' : decode c.code (pc + 3) = .ok (.dup, 1) := by rw [hb]; exact d3
  have d4' : decode c.code (pc + 4) = .ok (.ldc_w is, 3) := by rw [hb]; exact d4
  have hstr' : vk_R own is text sa s' := vk_R.warm hW0 hstr
  obtain ⟨U, hsteps, hrun, hend, hW, hsame, ce, hce, hO⟩ := X₁.ctorThrowS hexec htr (own := own) (cls := cls) (names := names) (ic := ic) hown' hcls hnames h (fun x hx => nomatch hx) hfX hkX hcellA (by rw [hhp, hT]; exact Nat.le_refl _) (msg := .ref sa) rfl
    (g := { method := m, pc := pc + 7, locals := ls, stack := .ref sa :: .ref T.heap.size :: .ref T.heap.size :: rest, locked := none }) rfl hsize rfl rfl (rest := rest) rfl
    (by rw [hb]; exact d7) (by rw [hb]; exact d10) hout hRframes (by simp only [List.map_cons, List.sum_cons, hcat]; omega) hlocks
  obtain ⟨f1, f2⟩ := vx_frame hsame
  rw [hhp] at f1 f2
  have hWs : s.WarmedH U.vm := State.WarmedH.trans hW0 hW
  have hcl : s.vm.findClass cls = some ce.cls := by
    have h9 := hO.cls
    rw [hvm] at h9
    exact h9
  have hall : s.sameButNew ({ U with vm := s.vm } : State) locs mc ms := by
    subst hA
    obtain ⟨e1, e2⟩ := hsame
    rw [State.setFrames_setFrames] at e1
    have h2 : (T.setVm s.vm).sameButNew ({ U with vm := s.vm } : State) [] (0 + 1) (0 + 6) := ⟨e1, e2⟩
    have h3 := X.same.trans h2
    rw [List.append_nil] at h3
    exact h3.mono hc hs
  refine ⟨U, ?_, .threw T.heap.size, hrun, hend, Or.inr ⟨T.heap.size, rfl, cls, ce, locs, hx U hWs.alike f1 (fun q hq => f2 q hq (fun z hz => nomatch hz)), hce, hO.vm, hcl, hWs, hall, hf⟩⟩
  refine st1 _ ?_
  show Steps p.tables e below (T1.setTop { method := m, pc := pc + 3, locals := ls, stack := .ref T.heap.size :: rest, locked := none }) _
  jvm_step X₁.here [X₁.here.top, hexec, d3', Value.category]
  exact X₁.ldcStringW hexec (own := own) (text := text) (index := is) (a := sa) hown' hstr'.1 hstr'.2
    (g := { method := m, pc := pc + 4, locals := ls, stack := .ref T.heap.size :: .ref T.heap.size :: rest, locked := none }) rfl d4' _ hsteps
end Ends
section Bodies
variable {l : Launch}
theorem vx_ofW {y : MethodName} {ws ws' : List Cond} {rm : Room} {Pc : Array Value → State → Prop} {Qc : Array Value → State → Outcome → State → Prop} {XC : String → State → State → Prop} {mc ms : Nat} {free : Addr → Prop} {cc : ByteArray} {maxL : Nat} {ret : Option FieldType}
    (hy : plainName y.cls = true) (hw : ws = Cond.code y cc maxL ret :: ws')
    (body : ∀ p e s m args below meth c s₁, BodyLoose p l y (headSpec ws rm) cc maxL ret e s m args below meth c s₁ → c.maxLocals = maxL → (∀ x ∈ c.exceptionTable.toList, False) → Pc args s →
      W p l e (headSpec ws rm).room s m args below meth c s.heap [] 0 0 (vx_MQ below Qc XC args s mc ms free) (entryFrame m args maxL)) : vx_Met l y ws rm Pc Qc XC mc ms free := by
  refine MetFree.of_bodyS (code := cc) (maxLocals := maxL) (ret := ret) hy ?_ ?_
  · intro args s m h hn
    obtain ⟨meth, c, h1, h2, h3, h4, h5, h6, -, -⟩ := Cond.code_spec hn (atoms_spec (ws := ws) h _ (by rw [hw]; exact List.mem_cons_self))
    exact ⟨meth, c, h1, h2, h3, h4, h5, h6⟩
  · intro p e s m args below meth c s₁ B hml hP _
    have hh0 : s₁.heap = s.heap := by rw [B.state]; rfl
    have ht : ∀ x ∈ c.exceptionTable.toList, False := by
      obtain ⟨meth9, c9, h1, h2, -, -, -, -, h7, -⟩ := Cond.code_spec B.named (atoms_spec (ws := ws) B.pre _ (by rw [hw]; exact List.mem_cons_self))
      cases Option.some.inj (h1.symm.trans B.method)
      cases Option.some.inj (h2.symm.trans (Stand.of_body B).code)
      intro x hx
      rw [Array.isEmpty_iff.mp h7] at hx
      cases hx
    obtain ⟨t, a1, o, b1, b2, b3⟩ := body p e s m args below meth c s₁ B hml ht hP s₁ hh0 (Stand.of_body B)
    exact ⟨t, o, a1, b1, b2, b3⟩
/-- the table of a body with handlers -/
theorem vx_table {p : Program} {x y : MethodName} {S : Spec} {cc bytes : ByteArray} {maxL maxL' : Nat} {ret ret' : Option FieldType} {e : Env} {s s₁ : State} {m : MethodId} {args : Array Value} {below : List Frame} {meth : Method} {c : Code} {hh : List (Nat × Nat × Nat × Nat)}
    (B : BodyLoose p l y S cc maxL ret e s m args below meth c s₁) (h : (Cond.codeWith y bytes maxL' ret' hh).before args s = true) : c.exceptionTable.toList = tableOf hh := by
  obtain ⟨m9, meth9, c9, hn9, h1, h2, -, -, h6, -⟩ := Cond.codeWith_spec h
  cases Option.some.inj (hn9.symm.trans B.named)
  cases Option.some.inj (h1.symm.trans B.method)
  cases Option.some.inj (h2.symm.trans (Stand.of_body B).code)
  rw [← h6, table_eq]
end Bodies
end VXA
/-! ===== END ===== -/
/-! ===== BEGIN a static call of a method with an exception table ===== -/
section VXS
variable {p : Program} {l : Launch} {e : Env} {R : Room} {s : State} {m : MethodId} {args : Array Value} {below : List Frame} {meth : Method} {c : Code} {T : State} {H : Heap} {locs : List Loc} {cells slots : Nat}
abbrev vx_CSW (R : Room) (s : State) (args : Array Value) (own : String) (index : Nat) (y : MethodName) (bytes : ByteArray) (maxL : Nat) (ret : Option FieldType) (hh : List (Nat × Nat × Nat × Nat)) (ws : List Cond) (rm : Room) (mc ms n : Nat) : Prop :=
  (rm.cells = mc ∧ rm.slots = ms ∧ rm.frames + 1 ≤ R.frames ∧ 8 + (maxL + 11) + rm.locals ≤ R.locals ∧ (∀ w ∈ ws, ∀ (a' : Array Value) (U : State), s.WarmedH U.vm → w.before a' U = true) ∧ Cond.codeWith y bytes maxL ret hh ∈ ws) ∧
  (Cond.codeWith y bytes maxL ret hh).before args s = true ∧ (Cond.initialized y.cls).before args s = true ∧ (y.cls ≠ "java/lang/invoke/MethodHandle" ∧ y.cls ≠ "java/lang/invoke/VarHandle") ∧
  (∀ sig, parseMethodDescriptor y.desc = some sig → n = sig.parameters.length) ∧ (Cond.methodLink own index y).before args s = true ∧ (Cond.static y).before args s = true
theorem vx_cwSW {own : String} {index maxL mc ms : Nat} {y : MethodName} {bytes : ByteArray} {ret : Option FieldType} {hh : List (Nat × Nat × Nat × Nat)} {Ts ws ws' : List Cond} {rm : Room} (n : Nat) (ht : ∀ w ∈ Ts, w.before args s = true) (hT : GoodIn Ts (va_wsS own index y ws)) (hw : ws = Cond.codeWith y bytes maxL ret hh :: ws') (hrc : rm.cells = mc) (hrs : rm.slots = ms)
    (hd : y.cls ≠ "java/lang/invoke/MethodHandle" ∧ y.cls ≠ "java/lang/invoke/VarHandle" ∧ (parseMethodDescriptor y.desc).map (fun d => d.parameters.length) = some n) (hR : rm.frames + 1 ≤ R.frames ∧ 8 + (maxL + 11) + rm.locals ≤ R.locals) :
    vx_CSW R s args own index y bytes maxL ret hh ws rm mc ms n := by
  have ok : ∀ w ∈ va_wsS own index y ws, w.before args s = true := fun w h => ht w (hT w h).1
  have hG : GoodIn Ts ws := fun w h => hT w (by unfold va_wsS; exact List.mem_append_right _ h)
  have hc : Cond.codeWith y bytes maxL ret hh ∈ ws := by rw [hw]; exact List.mem_cons_self
  refine ⟨⟨hrc, hrs, hR.1, hR.2, pay_in ht hG, hc⟩, ht _ (hG _ hc).1, ok _ (by simp [va_wsS]), ⟨hd.1, hd.2.1⟩, fun sig h => ?_, ok _ (by simp [va_wsS]), ok _ (by simp [va_wsS])⟩
  have h2 := hd.2.2
  rw [h] at h2
  exact (Option.some.inj h2).symm
theorem vx_callSW (X : Stand p l e R s m args below meth c T locs cells slots) (hexec : p.tables.exec = Jvm.exec) {own : String} {index : Nat} {y : MethodName} {bytes : ByteArray} {maxL : Nat} {ret : Option FieldType} {hh : List (Nat × Nat × Nat × Nat)}
    (hown : s.vm.findClass own = some m.cls) (hlink : (Cond.methodLink own index y).before args s = true) (hstat : (Cond.static y).before args s = true) (hinit : (Cond.initialized y.cls).before args s = true)
    (hcode : (Cond.codeWith y bytes maxL ret hh).before args s = true) (hy : y.cls ≠ "java/lang/invoke/MethodHandle" ∧ y.cls ≠ "java/lang/invoke/VarHandle")
    {W9 : Nat} {Pre : Pt → Array Value → Prop} {Post : Pt → Array Value → Option Value → Pt → Prop} (hK : Back l R p e below s args y 3 W9 Pre Post)
    {g : JFrame} (hg : g.method = m) (hsize : g.locals.size = c.maxLocals) {argsL rest : List Value} (hlen : ∀ sig, parseMethodDescriptor y.desc = some sig → argsL.length = sig.parameters.length)
    (hstack : g.stack = argsL.reverse ++ rest) (hW : 2 * g.monitorRoom + (rest.map fun v => v.category).sum ≤ W9) (hdg : decode c.code g.pc = .ok (.invokestatic index, 3))
    (hpre : ∀ vm₁, s.WarmedH vm₁ → Pre ⟨T.setVm vm₁, locs, cells, slots⟩ argsL.toArray) :
    ∃ (v : Option Value) (vm₁ : Vm) (B : Pt), s.WarmedH vm₁ ∧ Stand p l e R s m args below meth c B.U B.locs B.cells B.slots ∧ Post ⟨T.setVm vm₁, locs, cells, slots⟩ argsL.toArray v B ∧
      ∀ target, Steps p.tables e below (B.U.setTop { g with pc := g.pc + 3, stack := v.toList ++ rest }) target → Steps p.tables e below (T.setTop g) target := by
  obtain ⟨mk, methM, cM, hnamed, hmethM, -, -, -, -, -, -, hsigM⟩ := Cond.codeWith_spec hcode
  have hstatic : methM.isStatic = true := Cond.static_spec hnamed hmethM hstat
  obtain ⟨kP, hkP, -⟩ := className_of_methodNamed hnamed
  have hinitP : kP.init = .initialized := Cond.initialized_spec (findClass_of_methodNamed hnamed) hkP hinit
  obtain ⟨vm₁, X₁, hstep₁⟩ := X.invokestatic hexec hown hlink hnamed hmethM hstatic hkP hinitP hy (g := g) hg (argsL := argsL) (rest := rest) (hlen _ hsigM) hstack hdg
  obtain ⟨v, B, X', hpost, hsteps⟩ := hK m meth c ⟨T.setVm vm₁, locs, cells, slots⟩ { g with stack := rest } (.invokestatic index) mk argsL.toArray X₁ hg hsize hdg hW (X₁.named hnamed) (hpre vm₁ X₁.warmed)
  exact ⟨v, vm₁, B, X₁.warmed, X', hpost, fun target h => hstep₁ _ fun acts => by rw [doInvoke_state]; exact hsteps.trans h⟩
theorem vx_runSW {y : MethodName} {bytes cc : ByteArray} {maxL nL mc ms n index : Nat} {ret : Option FieldType} {hh : List (Nat × Nat × Nat × Nat)} {ws : List Cond} {rm : Room} {Pc : Array Value → State → Prop} {Qc : Array Value → State → Outcome → State → Prop} {free : Addr → Prop} {Ts : List Cond} {own : String} {As rest : List Value} {g : JFrame}
    (S : CallFix p m c cc nL s args Ts own) (hM : Met l y ws rm Pc Qc mc ms free) (cw : vx_CSW R s args own index y bytes maxL ret hh ws rm mc ms n) (hp : PreS s H Pc As)
    (hg : g.method = m) (hn : As.length = n) (hsize : g.locals.size = nL) (hstack : g.stack = As.reverse ++ rest) (hW : 2 * g.monitorRoom + (rest.map fun v => v.category).sum ≤ 8) (hdg : decode cc g.pc = .ok (.invokestatic index, 3)) (hf : cells + mc ≤ R.cells ∧ slots + ms ≤ R.slots) :
    va_Run p l e R s m args below meth c H locs cells slots mc ms g rest (Qc As.toArray) (free) := by
  obtain ⟨⟨hrc, hrs, hfr, hlo, hws, hcw⟩, hcode, hini, hy, hlen, hl, hstt⟩ := cw
  have hK : Back l R p e below s args y 3 8 (PreOf R mc ms Pc) (PostOf Qc mc ms free) := va_backW (hh := hh) (bytes := bytes) (maxL := maxL) (ret := ret) hM hp.1 hrc hrs hfr hlo hws hcw (fun a' U hW => word_at hW (Or.inl (by first | rfl | simp [Cond.onTables, Cond.keeps, Cond.steady])) hini)
  obtain ⟨hx, hb, hml, ho, -⟩ := S
  intro T hT X
  obtain ⟨v, vm₁, ⟨U', l2, c2, s2⟩, hW₁, X', ⟨g', mk, t, L, e1, e2, hq, h1, hL, h2, h3⟩, st⟩ := vx_callSW X hx (hh := hh) (bytes := bytes) (maxL := maxL) (ret := ret) ho hl hstt hini hcode hy hK hg (hsize.trans hml.symm) (argsL := As) (rest := rest) (fun sig h => hn.trans (hlen sig h)) hstack hW (by rw [hb]; exact hdg)
    (fun vm₁ hW₁ => ⟨hf.1, hf.2, hp.2 (T.setVm vm₁) hT hW₁⟩)
  dsimp only [Pt.U, Pt.locs, Pt.cells, Pt.slots] at X' e1 e2 h1 h2 h3 st
  subst h1; subst h2; subst h3
  exact ⟨v, (T.setVm vm₁).calling g' mk As.toArray, t, U', L, hT, X', hL, e1, e2, hq, st⟩
/-- not caught here, past rows that name other classes: it goes on to the caller -/
theorem vx_outP {p : Program} {l : Launch} {e : Env} {R : Room} {s : State} {m : MethodId} {args : Array Value} {below : List Frame} {meth : Method} {c : Code} {H : Heap} {locs : List Loc} {cells slots : Nat} {free : Addr → Prop} {ls : Array Slot} {rest : List Value} {Qc : Array Value → State → Outcome → State → Prop} {XC : String → State → State → Prop}
    {pc : Nat} {own E : String} {ce : Cell} {q : Addr} {mc ms : Nat} (hown : s.vm.findClass own = some m.cls) (hlocks : meth.locks = false)
    (hpass : ∀ z ∈ c.exceptionTable.toList, covers z pc = false ∨ (z.catchType ≠ 0 ∧ ∃ nm : String, (Cond.classLink own z.catchType nm).before args s = true ∧ va_Nc E nm s)) (hcell : H[q]? = some ce) (hv : ce.vm = .none) (hcl : s.vm.findClass E = some ce.cls)
    (hx : ∀ t : State, t.heap = H → s.vm.Alike t.vm → XC E s t) (hf : ∀ z ∈ locs, free z.base) (hc : cells ≤ mc) (hs : slots ≤ ms) :
    vx_W p l e R s m args below meth c H locs cells slots (vx_MQ below Qc XC args s mc ms free) (F0 m pc ls rest) q := by
  intro T hT X
  have hpl : e.platform.magicAccessors = ({} : Platform).magicAccessors := by rw [X.admits.platform]
  obtain ⟨vm', hW', X', st⟩ := X.outThrough hlocks q (g := F0 m pc ls rest) rfl rfl rfl (cell := ce) (by rw [hT]; exact hcell) (by rw [hv]; rfl)
    (by obtain ⟨k9, h9, -⟩ := Vm.findClass_spec hcl; exact ⟨k9, h9⟩) (fun z hz => by
      rcases hpass z hz with h | ⟨hz0, nm, hl1, hn1⟩
      · exact Or.inl h
      · obtain ⟨c6, hc6, hcl6⟩ := Cond.classLink_spec hown hl1 e.platform hpl
        obtain ⟨a8, b8, h1, h2, h3⟩ := hn1
        cases Option.some.inj (h1.symm.trans hcl)
        cases Option.some.inj (h2.symm.trans hc6)
        exact Or.inr ⟨hz0, _, hcl6, h3⟩)
  obtain ⟨g₀, hfr⟩ := X'.frames_eq
  have hcell9 : ((T.setVm vm').setFrames (.throwing q :: below)).heap[q]? = some ce := by
    show T.heap[q]? = some ce
    rw [hT]; exact hcell
  have hend : Ended ((T.setVm vm').setFrames (.throwing q :: below)) below (.threw q) := State.frames_setFrames _ (State.cur_lt_of_frames hfr)
  refine ⟨(T.setVm vm').setFrames (.throwing q :: below), ?_, .threw q, X'.here.running, hend, Or.inr ⟨q, rfl, E, ce, locs, hx _ hT (X'.ends _).1.alike, hcell9, hv, hcl, (X'.ends _).1, (X'.ends _).2.mono hc hs, hf⟩⟩
  rw [X.pushThrowing_eq]
  exact st
/-- a thing of a world lies in the heap -/
theorem vx_lt {D : va_G} {cl : List vw_C} {ws : va_W} {H1 : Heap} (h : va_P D cl ws H1) {k : Nat} {q : Nat × va_E} (hk : ws[k]? = some q) : q.1 < H1.size := (h k q hk).lt
end VXS
/-! ===== END ===== -/
/-! ===== BEGIN methods with a table of their own: called by a name, returning or throwing ===== -/
section VXH
/-! vx_backW, vx_callVX, vx_callSX, vx_callVW, vx_runVW, vx_runVX, vx_runSX, vx_ofWH follow the same proofs as their sisters above (Free/Laws.lean, Shelf42/LK1.lean); vx_outP calls Shelf42/NT130.lean (outThrough). -/
section
variable {l : Launch} {R : Room} {p : Program} {e : Env} {below : List Frame} {s : State} {sargs : Array Value} {y : MethodName} {len W9 : Nat}
theorem vx_backW {ws : List Cond} {rm : Room} {Pc : Array Value → State → Prop} {Qc : Array Value → State → Outcome → State → Prop} {XC : String → State → State → Prop} {mc ms : Nat} {free : Addr → Prop} {bytes : ByteArray} {maxL : Nat} {ret : Option FieldType} {hh : List (Nat × Nat × Nat × Nat)}
    (hM : vx_Met l y ws rm Pc Qc XC mc ms free) (hblind : FrameBlind Pc) (hrc : rm.cells = mc) (hrs : rm.slots = ms)
    (hframes : rm.frames + 1 ≤ R.frames) (hlocals : W9 + (maxL + 11) + rm.locals ≤ R.locals)
    (hws : ∀ w ∈ ws, ∀ a' U, s.WarmedH U.vm → w.before a' U = true) (hcode : Cond.codeWith y bytes maxL ret hh ∈ ws) (hinit : ∀ a' U, s.WarmedH U.vm → (Cond.initialized y.cls).before a' U = true) :
    vx_Back l R p e below s sargs y len W9 (PreOf R mc ms Pc) (PostOf Qc mc ms free) (vx_Post XC mc ms free) := by
  intro m meth c A g ig mk a X hg hsize hdg hW hn hp
  have h1 : (headSpec ws rm).pre.before a A.U = true := atoms_intro fun w hw => hws w hw _ _ X.warmed
  have h2 : (Cond.codeWith y bytes maxL ret hh).before a A.U = true := hws _ hcode _ _ X.warmed
  have h3 : (Cond.initialized y.cls).before a A.U = true := hinit _ _ X.warmed
  have h4 : A.cells + (headSpec ws rm).room.cells ≤ R.cells := by rw [show (headSpec ws rm).room.cells = mc from hrc]; exact hp.1
  have h5 : A.slots + (headSpec ws rm).room.slots ≤ R.slots := by rw [show (headSpec ws rm).room.slots = ms from hrs]; exact hp.2.1
  have hPc : Pc a (A.U.calling g mk a) := hblind _ _ _ _ hp.2.2
  obtain ⟨U, Ls, c0, s0⟩ := A
  dsimp only [Pt.U, Pt.locs, Pt.cells, Pt.slots] at h1 h2 h3 h4 h5 X hn hPc ⊢
  obtain ⟨m9, methY, cY, hn9, hmY, hcY, -, hlY, -⟩ := Cond.codeWith_spec h2
  cases Option.some.inj (hn9.symm.trans hn)
  obtain ⟨kY, hkY, -⟩ := className_of_methodNamed hn
  have hinitY : kY.init = .initialized := Cond.initialized_spec (findClass_of_methodNamed hn) hkY h3
  have h : At U g.method c below := by rw [hg]; exact X.here
  have hlocals9 : W9 + (maxL + 11) + (headSpec ws rm).room.locals ≤ R.locals := hlocals
  have happ : (headSpec ws rm).appliesLoose y e.platform (U.calling g mk a) = true :=
    Spec.appliesLoose_calling (g := g) h hdg hn hkY hinitY
      (X.room_calling (g := g) (R' := (headSpec ws rm).room) hsize hmY hcY hframes (by rw [hlY]; omega) h4 h5) h1
  obtain ⟨mid, hmid⟩ := h.above
  have hfr : (U.setTop g).frames = (.java g :: mid) ++ below := by rw [State.frames_setTop' g h.top, hmid]; rfl
  obtain ⟨o, s₂, hsteps, -, hend, hq⟩ := Steps.callFree hM p X.admits X.cas X.clock (acts := []) hfr happ hPc trivial
  have hq' : vx_Q Qc XC mc ms free a (U.calling g mk a) o s₂ := hq
  rw [State.frames_setTop' g h.top] at hend
  obtain ⟨g₀, hg0⟩ := Option.isSome_iff_exists.mp h.top
  obtain ⟨r, hr⟩ := State.topJava?_eq_some.mp hg0
  have hr' : (({ U with heap := s₂.heap, slotsUsed := s₂.slotsUsed } : State).setVm s₂.vm).frames = .java g₀ :: r := hr
  rcases hq' with ⟨hqc, L, hfe, hL⟩ | ⟨q, rfl, E, ce, L, hx, hce, hcv, hcl, hW₂, hsm, hL⟩
  · obtain ⟨⟨v, rfl⟩, hW₂, e2, q2, q3, q4, q5, q6⟩ := id hfe
    have e3 : s₂ = ({ (U.calling g mk a).setFrames s₂.frames with heap := s₂.heap, slotsUsed := s₂.slotsUsed } : State).setVm s₂.vm := by
      have : s₂ = ({ s₂ with vm := (U.calling g mk a).vm } : State).setVm s₂.vm := rfl
      rw [e2] at this
      exact this
    obtain ⟨c₂, i₂, len₂, hc₂, hd₂, hf₂⟩ := hend
    have hW' : U.WarmedH s₂.vm := hW₂
    have hcc : c₂ = c := by
      have h1 : s₂.code? g.method = U.code? g.method := by
        rw [State.code?_eq, State.code?_eq, hW'.alike.method?]
      exact Option.some.inj (hc₂.symm.trans (h1.trans h.code))
    subst hcc
    have hlen : len₂ = len := by rw [hdg] at hd₂; cases hd₂; rfl
    subst hlen
    have hs₂ : s₂ = (({ U with heap := s₂.heap, slotsUsed := s₂.slotsUsed } : State).setVm s₂.vm).setTop { g with pc := g.pc + len₂, stack := v.toList ++ g.stack } := by
      refine e3.trans ?_
      rw [hf₂, State.calling_eq h.top, State.setFrames_setFrames, State.setTop_of_frames _ hr', hr]
      rfl
    have hsame : U.sameButNew ({ U with heap := s₂.heap, slotsUsed := s₂.slotsUsed } : State) L mc ms := by
      refine ⟨?_, q2, q3, q4, q5, q6⟩
      obtain ⟨t, ht, -⟩ := State.frames_cons hr
      show ({ U with heap := s₂.heap, slotsUsed := s₂.slotsUsed } : State) = { U.setFrames U.frames with heap := s₂.heap, slotsUsed := s₂.slotsUsed }
      rw [State.setFrames_self ht]
    subst hg
    refine Or.inl ⟨v, ⟨(({ U with heap := s₂.heap, slotsUsed := s₂.slotsUsed } : State).setVm s₂.vm), Ls ++ L, c0 + mc, s0 + ms⟩,
      ⟨X.admits, X.cas, X.clock, X.frames, X.room, X.hears, X.method, X.code, (X.here.setHeapUsed s₂.heap s₂.slotsUsed).setVm hW'.alike, X.tail, State.WarmedH.trans X.warmed hW', X.limits, X.bytes, X.same.trans (hsame.setVm s.vm)⟩,
      ⟨g, mk, s₂, L, rfl, rfl, hqc, rfl, hL, rfl, rfl⟩, ?_⟩
    show Steps p.tables e below _ ((({ U with heap := s₂.heap, slotsUsed := s₂.slotsUsed } : State).setVm s₂.vm).setTop { g with pc := g.pc + len₂, stack := v.toList ++ g.stack })
    rw [← hs₂]
    exact hsteps
  · obtain ⟨e2, q2, q3, q4, q5, q6⟩ := id hsm
    have e3 : s₂ = ({ (U.calling g mk a).setFrames s₂.frames with heap := s₂.heap, slotsUsed := s₂.slotsUsed } : State).setVm s₂.vm := by
      have : s₂ = ({ s₂ with vm := (U.calling g mk a).vm } : State).setVm s₂.vm := rfl
      rw [e2] at this
      exact this
    have hf₂ : s₂.frames = .throwing q :: .java g :: U.frames.tail := hend
    have hW' : U.WarmedH s₂.vm := hW₂
    have hs₂ : s₂ = ((({ U with heap := s₂.heap, slotsUsed := s₂.slotsUsed } : State).setVm s₂.vm).setTop g).pushFrame (.throwing q) := by
      refine e3.trans ?_
      rw [hf₂, State.calling_eq h.top, State.setFrames_setFrames, State.pushFrame, State.frames_setTop _ hr', State.setTop_of_frames _ hr', State.setFrames_setFrames, hr]
      rfl
    have hsame : U.sameButNew ({ U with heap := s₂.heap, slotsUsed := s₂.slotsUsed } : State) L mc ms := by
      refine ⟨?_, q2, q3, q4, q5, q6⟩
      obtain ⟨t, ht, -⟩ := State.frames_cons hr
      show ({ U with heap := s₂.heap, slotsUsed := s₂.slotsUsed } : State) = { U.setFrames U.frames with heap := s₂.heap, slotsUsed := s₂.slotsUsed }
      rw [State.setFrames_self ht]
    subst hg
    refine Or.inr ⟨q, ⟨(({ U with heap := s₂.heap, slotsUsed := s₂.slotsUsed } : State).setVm s₂.vm), Ls ++ L, c0 + mc, s0 + ms⟩,
      ⟨X.admits, X.cas, X.clock, X.frames, X.room, X.hears, X.method, X.code, (X.here.setHeapUsed s₂.heap s₂.slotsUsed).setVm hW'.alike, X.tail, State.WarmedH.trans X.warmed hW', X.limits, X.bytes, X.same.trans (hsame.setVm s.vm)⟩,
      ⟨g, mk, s₂, L, E, ce, rfl, rfl, hx, hce, hcv, hcl, rfl, hL, rfl, rfl⟩, ?_⟩
    show Steps p.tables e below _ (((({ U with heap := s₂.heap, slotsUsed := s₂.slotsUsed } : State).setVm s₂.vm).setTop g).pushFrame (.throwing q))
    rw [← hs₂]
    exact hsteps
end
variable {p : Program} {l : Launch} {e : Env} {R : Room} {s : State} {m : MethodId} {args : Array Value} {below : List Frame} {meth : Method} {c : Code} {T : State} {H : Heap} {locs : List Loc} {cells slots : Nat}
theorem vx_callVX (X : Stand p l e R s m args below meth c T locs cells slots) (hexec : p.tables.exec = Jvm.exec) {own C : String} {index : Nat} {y : MethodName} {bytes : ByteArray} {maxL : Nat} {ret : Option FieldType} {hh : List (Nat × Nat × Nat × Nat)}
    (hown : s.vm.findClass own = some m.cls) (hlink : (Cond.methodLink own index y).before args s = true) (hinst : (Cond.instanceMethod y).before args s = true) (hsel : (Cond.selects C y y).before args s = true)
    (hcode : (Cond.codeWith y bytes maxL ret hh).before args s = true) (hy : y.cls ≠ "java/lang/invoke/MethodHandle" ∧ y.cls ≠ "java/lang/invoke/VarHandle")
    {W9 : Nat} {Pre : Pt → Array Value → Prop} {Post : Pt → Array Value → Option Value → Pt → Prop} {PostX : Pt → Array Value → Addr → Pt → Prop} (hK : vx_Back l R p e below s args y 3 W9 Pre Post PostX)
    {b : Addr} {cellB : Cell} (hcell : T.heap[b]? = some cellB) (hobj : cellB.vm.isStatics = false) (hcls : s.vm.findClass C = some cellB.cls)
    {g : JFrame} (hg : g.method = m) (hsize : g.locals.size = c.maxLocals) {argsL rest : List Value} (hlen : ∀ sig, parseMethodDescriptor y.desc = some sig → argsL.length = sig.parameters.length)
    (hstack : g.stack = argsL.reverse ++ .ref b :: rest) (hW : 2 * g.monitorRoom + (rest.map fun v => v.category).sum ≤ W9) (hdg : decode c.code g.pc = .ok (.invokevirtual index, 3))
    (hpre : ∀ vm₁, s.WarmedH vm₁ → Pre ⟨T.setVm vm₁, locs, cells, slots⟩ (Value.ref b :: argsL).toArray) :
    (∃ (v : Option Value) (vm₁ : Vm) (B : Pt), s.WarmedH vm₁ ∧ Stand p l e R s m args below meth c B.U B.locs B.cells B.slots ∧ Post ⟨T.setVm vm₁, locs, cells, slots⟩ (Value.ref b :: argsL).toArray v B ∧
      ∀ target, Steps p.tables e below (B.U.setTop { g with pc := g.pc + 3, stack := v.toList ++ rest }) target → Steps p.tables e below (T.setTop g) target) ∨
    (∃ (q : Addr) (vm₁ : Vm) (B : Pt), s.WarmedH vm₁ ∧ Stand p l e R s m args below meth c B.U B.locs B.cells B.slots ∧ PostX ⟨T.setVm vm₁, locs, cells, slots⟩ (Value.ref b :: argsL).toArray q B ∧
      Steps p.tables e below (T.setTop g) ((B.U.setTop { g with stack := rest }).pushFrame (.throwing q))) := by
  obtain ⟨mk, methM, hnamed, hmethM, hstM, habM⟩ := Cond.instanceMethod_spec hinst
  obtain ⟨m8, methM', cM, hn8, hmethM', -, -, -, -, -, -, hsigM⟩ := Cond.codeWith_spec hcode
  cases Option.some.inj (hn8.symm.trans hnamed)
  cases hmethM.symm.trans hmethM'
  obtain ⟨c2, r2, m2, q1, q2, q3, q4, kP, hkP, hkPi⟩ := Cond.selects_spec hsel
  cases hcls.symm.trans q1
  cases (State.methodFound?_of_named hnamed hy).symm.trans q2
  cases hnamed.symm.trans q3
  have hselP : selectMethod e.platform s.vm cellB.cls mk = .method mk := by rw [Launch.admits_selectMethod X.admits]; exact q4
  obtain ⟨vm₁, X₁, hstep₁⟩ := X.invokevirtual hexec hown hlink hnamed hmethM hstM hkP hkPi hy (a := b) (cell := cellB) hcell
    (fun z h => by rw [h] at hobj; cases hobj) hselP hmethM habM hkP hkPi (g := g) hg (argsL := argsL) (rest := rest) (hlen _ hsigM) hstack hdg
  rcases hK m meth c ⟨T.setVm vm₁, locs, cells, slots⟩ { g with stack := rest } (.invokevirtual index) mk (Value.ref b :: argsL).toArray X₁ hg hsize hdg hW (X₁.named hnamed) (hpre vm₁ X₁.warmed) with ⟨v, B, X', hpost, hsteps⟩ | ⟨q, B, X', hpost, hsteps⟩
  · exact Or.inl ⟨v, vm₁, B, X₁.warmed, X', hpost, fun target h => hstep₁ _ fun acts => by rw [doInvoke_state]; exact hsteps.trans h⟩
  · exact Or.inr ⟨q, vm₁, B, X₁.warmed, X', hpost, hstep₁ _ fun acts => by rw [doInvoke_state]; exact hsteps⟩
theorem vx_callSX (X : Stand p l e R s m args below meth c T locs cells slots) (hexec : p.tables.exec = Jvm.exec) {own : String} {index : Nat} {y : MethodName} {bytes : ByteArray} {maxL : Nat} {ret : Option FieldType} {hh : List (Nat × Nat × Nat × Nat)}
    (hown : s.vm.findClass own = some m.cls) (hlink : (Cond.methodLink own index y).before args s = true) (hstat : (Cond.static y).before args s = true) (hinit : (Cond.initialized y.cls).before args s = true)
    (hcode : (Cond.codeWith y bytes maxL ret hh).before args s = true) (hy : y.cls ≠ "java/lang/invoke/MethodHandle" ∧ y.cls ≠ "java/lang/invoke/VarHandle")
    {W9 : Nat} {Pre : Pt → Array Value → Prop} {Post : Pt → Array Value → Option Value → Pt → Prop} {PostX : Pt → Array Value → Addr → Pt → Prop} (hK : vx_Back l R p e below s args y 3 W9 Pre Post PostX)
    {g : JFrame} (hg : g.method = m) (hsize : g.locals.size = c.maxLocals) {argsL rest : List Value} (hlen : ∀ sig, parseMethodDescriptor y.desc = some sig → argsL.length = sig.parameters.length)
    (hstack : g.stack = argsL.reverse ++ rest) (hW : 2 * g.monitorRoom + (rest.map fun v => v.category).sum ≤ W9) (hdg : decode c.code g.pc = .ok (.invokestatic index, 3))
    (hpre : ∀ vm₁, s.WarmedH vm₁ → Pre ⟨T.setVm vm₁, locs, cells, slots⟩ argsL.toArray) :
    (∃ (v : Option Value) (vm₁ : Vm) (B : Pt), s.WarmedH vm₁ ∧ Stand p l e R s m args below meth c B.U B.locs B.cells B.slots ∧ Post ⟨T.setVm vm₁, locs, cells, slots⟩ argsL.toArray v B ∧
      ∀ target, Steps p.tables e below (B.U.setTop { g with pc := g.pc + 3, stack := v.toList ++ rest }) target → Steps p.tables e below (T.setTop g) target) ∨
    (∃ (q : Addr) (vm₁ : Vm) (B : Pt), s.WarmedH vm₁ ∧ Stand p l e R s m args below meth c B.U B.locs B.cells B.slots ∧ PostX ⟨T.setVm vm₁, locs, cells, slots⟩ argsL.toArray q B ∧
      Steps p.tables e below (T.setTop g) ((B.U.setTop { g with stack := rest }).pushFrame (.throwing q))) := by
  obtain ⟨mk, methM, cM, hnamed, hmethM, -, -, -, -, -, -, hsigM⟩ := Cond.codeWith_spec hcode
  have hstatic : methM.isStatic = true := Cond.static_spec hnamed hmethM hstat
  obtain ⟨kP, hkP, -⟩ := className_of_methodNamed hnamed
  have hinitP : kP.init = .initialized := Cond.initialized_spec (findClass_of_methodNamed hnamed) hkP hinit
  obtain ⟨vm₁, X₁, hstep₁⟩ := X.invokestatic hexec hown hlink hnamed hmethM hstatic hkP hinitP hy (g := g) hg (argsL := argsL) (rest := rest) (hlen _ hsigM) hstack hdg
  rcases hK m meth c ⟨T.setVm vm₁, locs, cells, slots⟩ { g with stack := rest } (.invokestatic index) mk argsL.toArray X₁ hg hsize hdg hW (X₁.named hnamed) (hpre vm₁ X₁.warmed) with ⟨v, B, X', hpost, hsteps⟩ | ⟨q, B, X', hpost, hsteps⟩
  · exact Or.inl ⟨v, vm₁, B, X₁.warmed, X', hpost, fun target h => hstep₁ _ fun acts => by rw [doInvoke_state]; exact hsteps.trans h⟩
  · exact Or.inr ⟨q, vm₁, B, X₁.warmed, X', hpost, hstep₁ _ fun acts => by rw [doInvoke_state]; exact hsteps⟩
theorem vx_callVW (X : Stand p l e R s m args below meth c T locs cells slots) (hexec : p.tables.exec = Jvm.exec) {own C : String} {index : Nat} {y : MethodName} {bytes : ByteArray} {maxL : Nat} {ret : Option FieldType} {hh : List (Nat × Nat × Nat × Nat)}
    (hown : s.vm.findClass own = some m.cls) (hlink : (Cond.methodLink own index y).before args s = true) (hinst : (Cond.instanceMethod y).before args s = true) (hsel : (Cond.selects C y y).before args s = true)
    (hcode : (Cond.codeWith y bytes maxL ret hh).before args s = true) (hy : y.cls ≠ "java/lang/invoke/MethodHandle" ∧ y.cls ≠ "java/lang/invoke/VarHandle")
    {W9 : Nat} {Pre : Pt → Array Value → Prop} {Post : Pt → Array Value → Option Value → Pt → Prop} (hK : Back l R p e below s args y 3 W9 Pre Post)
    {b : Addr} {cellB : Cell} (hcell : T.heap[b]? = some cellB) (hobj : cellB.vm.isStatics = false) (hcls : s.vm.findClass C = some cellB.cls)
    {g : JFrame} (hg : g.method = m) (hsize : g.locals.size = c.maxLocals) {argsL rest : List Value} (hlen : ∀ sig, parseMethodDescriptor y.desc = some sig → argsL.length = sig.parameters.length)
    (hstack : g.stack = argsL.reverse ++ .ref b :: rest) (hW : 2 * g.monitorRoom + (rest.map fun v => v.category).sum ≤ W9) (hdg : decode c.code g.pc = .ok (.invokevirtual index, 3))
    (hpre : ∀ vm₁, s.WarmedH vm₁ → Pre ⟨T.setVm vm₁, locs, cells, slots⟩ (Value.ref b :: argsL).toArray) :
    ∃ (v : Option Value) (vm₁ : Vm) (B : Pt), s.WarmedH vm₁ ∧ Stand p l e R s m args below meth c B.U B.locs B.cells B.slots ∧ Post ⟨T.setVm vm₁, locs, cells, slots⟩ (Value.ref b :: argsL).toArray v B ∧
      ∀ target, Steps p.tables e below (B.U.setTop { g with pc := g.pc + 3, stack := v.toList ++ rest }) target → Steps p.tables e below (T.setTop g) target := by
  obtain ⟨mk, methM, hnamed, hmethM, hstM, habM⟩ := Cond.instanceMethod_spec hinst
  obtain ⟨m8, methM', cM, hn8, hmethM', -, -, -, -, -, -, hsigM⟩ := Cond.codeWith_spec hcode
  cases Option.some.inj (hn8.symm.trans hnamed)
  cases hmethM.symm.trans hmethM'
  obtain ⟨c2, r2, m2, q1, q2, q3, q4, kP, hkP, hkPi⟩ := Cond.selects_spec hsel
  cases hcls.symm.trans q1
  cases (State.methodFound?_of_named hnamed hy).symm.trans q2
  cases hnamed.symm.trans q3
  have hselP : selectMethod e.platform s.vm cellB.cls mk = .method mk := by rw [Launch.admits_selectMethod X.admits]; exact q4
  obtain ⟨vm₁, X₁, hstep₁⟩ := X.invokevirtual hexec hown hlink hnamed hmethM hstM hkP hkPi hy (a := b) (cell := cellB) hcell
    (fun z h => by rw [h] at hobj; cases hobj) hselP hmethM habM hkP hkPi (g := g) hg (argsL := argsL) (rest := rest) (hlen _ hsigM) hstack hdg
  obtain ⟨v, B, X', hpost, hsteps⟩ := hK m meth c ⟨T.setVm vm₁, locs, cells, slots⟩ { g with stack := rest } (.invokevirtual index) mk (Value.ref b :: argsL).toArray X₁ hg hsize hdg hW (X₁.named hnamed) (hpre vm₁ X₁.warmed)
  exact ⟨v, vm₁, B, X₁.warmed, X', hpost, fun target h => hstep₁ _ fun acts => by rw [doInvoke_state]; exact hsteps.trans h⟩
abbrev vx_CVW (R : Room) (s : State) (args : Array Value) (own C : String) (index : Nat) (y : MethodName) (bytes : ByteArray) (maxL : Nat) (ret : Option FieldType) (hh : List (Nat × Nat × Nat × Nat)) (ws : List Cond) (rm : Room) (mc ms n : Nat) : Prop :=
  (rm.cells = mc ∧ rm.slots = ms ∧ rm.frames + 1 ≤ R.frames ∧ 8 + (maxL + 11) + rm.locals ≤ R.locals ∧ (∀ w ∈ ws, ∀ (a' : Array Value) (U : State), s.WarmedH U.vm → w.before a' U = true) ∧ Cond.codeWith y bytes maxL ret hh ∈ ws) ∧
  (Cond.codeWith y bytes maxL ret hh).before args s = true ∧ (Cond.initialized y.cls).before args s = true ∧ (y.cls ≠ "java/lang/invoke/MethodHandle" ∧ y.cls ≠ "java/lang/invoke/VarHandle") ∧
  (∀ sig, parseMethodDescriptor y.desc = some sig → n = sig.parameters.length) ∧ (Cond.methodLink own index y).before args s = true ∧ (Cond.instanceMethod y).before args s = true ∧ (Cond.selects C y y).before args s = true
theorem vx_cwVW {own C : String} {index maxL mc ms : Nat} {y : MethodName} {bytes : ByteArray} {ret : Option FieldType} {hh : List (Nat × Nat × Nat × Nat)} {Ts ws ws' : List Cond} {rm : Room} (n : Nat) (ht : ∀ w ∈ Ts, w.before args s = true) (hT : GoodIn Ts (wsV own index C y ws)) (hw : ws = Cond.codeWith y bytes maxL ret hh :: ws') (hrc : rm.cells = mc) (hrs : rm.slots = ms)
    (hd : y.cls = C ∧ y.cls ≠ "java/lang/invoke/MethodHandle" ∧ y.cls ≠ "java/lang/invoke/VarHandle" ∧ (parseMethodDescriptor y.desc).map (fun d => d.parameters.length) = some n) (hR : rm.frames + 1 ≤ R.frames ∧ 8 + (maxL + 11) + rm.locals ≤ R.locals) :
    vx_CVW R s args own C index y bytes maxL ret hh ws rm mc ms n := by
  obtain ⟨hC, hd⟩ := hd
  subst hC
  have ok : ∀ w ∈ wsV own index y.cls y ws, w.before args s = true := fun w h => ht w (hT w h).1
  have hG : GoodIn Ts ws := fun w h => hT w (by unfold wsV; exact List.mem_append_right _ h)
  have hc : Cond.codeWith y bytes maxL ret hh ∈ ws := by rw [hw]; exact List.mem_cons_self
  refine ⟨⟨hrc, hrs, hR.1, hR.2, pay_in ht hG, hc⟩, ht _ (hG _ hc).1, ok _ (by simp [wsV]), ⟨hd.1, hd.2.1⟩, fun sig h => ?_, ok _ (by simp [wsV]), ok _ (by simp [wsV]), ok _ (by simp [wsV])⟩
  have h2 := hd.2.2
  rw [h] at h2
  exact (Option.some.inj h2).symm
theorem vx_runVW {y : MethodName} {bytes cc : ByteArray} {maxL nL mc ms n index : Nat} {ret : Option FieldType} {hh : List (Nat × Nat × Nat × Nat)} {ws : List Cond} {rm : Room} {Pc : Array Value → State → Prop} {Qc : Array Value → State → Outcome → State → Prop} {free : Addr → Prop} {Ts : List Cond} {own C : String} {b : Addr} {As rest : List Value} {g : JFrame}
    (S : CallFix p m c cc nL s args Ts own) (hM : Met l y ws rm Pc Qc mc ms free) (cw : vx_CVW R s args own C index y bytes maxL ret hh ws rm mc ms n) (hp : PreV s H C b Pc As)
    (hg : g.method = m) (hn : As.length = n) (hsize : g.locals.size = nL) (hstack : g.stack = As.reverse ++ .ref b :: rest) (hW : 2 * g.monitorRoom + (rest.map fun v => v.category).sum ≤ 8) (hdg : decode cc g.pc = .ok (.invokevirtual index, 3)) (hf : cells + mc ≤ R.cells ∧ slots + ms ≤ R.slots) :
    va_Run p l e R s m args below meth c H locs cells slots mc ms g rest (Qc (Value.ref b :: As).toArray) free := by
  obtain ⟨⟨hrc, hrs, hfr, hlo, hws, hcw⟩, hcode, hini, hy, hlen, hl, hin, hse⟩ := cw
  have hK : Back l R p e below s args y 3 8 (PreOf R mc ms Pc) (PostOf Qc mc ms free) := va_backW (hh := hh) (bytes := bytes) (maxL := maxL) (ret := ret) hM hp.1 hrc hrs hfr hlo hws hcw (fun a' U hW => word_at hW (Or.inl (by first | rfl | simp [Cond.onTables, Cond.keeps, Cond.steady])) hini)
  obtain ⟨hx, hb, hml, ho, -⟩ := S
  obtain ⟨-, ⟨cellB, hcB, hoB, hclB⟩, hPc⟩ := hp
  intro T hT X
  obtain ⟨v, vm₁, ⟨U', l2, c2, s2⟩, hW₁, X', ⟨g', mk, t, L, e1, e2, hq, h1, hL, h2, h3⟩, st⟩ := vx_callVW X hx (C := C) (hh := hh) (bytes := bytes) (maxL := maxL) (ret := ret) ho hl hin hse hcode hy hK (by rw [hT]; exact hcB) hoB hclB hg (hsize.trans hml.symm) (argsL := As) (rest := rest) (fun sig h => hn.trans (hlen sig h)) hstack hW (by rw [hb]; exact hdg)
    (fun vm₁ hW₁ => ⟨hf.1, hf.2, hPc (T.setVm vm₁) hT hW₁⟩)
  dsimp only [Pt.U, Pt.locs, Pt.cells, Pt.slots] at X' e1 e2 h1 h2 h3 st
  subst h1; subst h2; subst h3
  exact ⟨v, (T.setVm vm₁).calling g' mk (Value.ref b :: As).toArray, t, U', L, hT, X', hL, e1, e2, hq, st⟩
section
variable {y : MethodName} {bytes cc : ByteArray} {maxL nL mc ms n index : Nat} {ret : Option FieldType} {ws : List Cond} {rm : Room} {Pc : Array Value → State → Prop} {Qc : Array Value → State → Outcome → State → Prop} {XC : String → State → State → Prop} {free : Addr → Prop} {Ts : List Cond} {own C : String} {b : Addr} {As rest : List Value} {g : JFrame}
theorem vx_runVX {hh : List (Nat × Nat × Nat × Nat)} (S : CallFix p m c cc nL s args Ts own) (hM : vx_Met l y ws rm Pc Qc XC mc ms free) (cw : vx_CVW R s args own C index y bytes maxL ret hh ws rm mc ms n) (hp : PreV s H C b Pc As)
    (hg : g.method = m) (hn : As.length = n) (hsize : g.locals.size = nL) (hstack : g.stack = As.reverse ++ .ref b :: rest) (hW : 2 * g.monitorRoom + (rest.map fun v => v.category).sum ≤ 8) (hdg : decode cc g.pc = .ok (.invokevirtual index, 3)) (hf : cells + mc ≤ R.cells ∧ slots + ms ≤ R.slots) :
    vx_Run p l e R s m args below meth c H locs cells slots mc ms g rest (Qc (Value.ref b :: As).toArray) XC free := by
  obtain ⟨⟨hrc, hrs, hfr, hlo, hws, hcw⟩, hcode, hini, hy, hlen, hl, hin, hse⟩ := cw
  have hK : vx_Back l R p e below s args y 3 8 (PreOf R mc ms Pc) (PostOf Qc mc ms free) (vx_Post XC mc ms free) := vx_backW (hh := hh) (bytes := bytes) (maxL := maxL) (ret := ret) hM hp.1 hrc hrs hfr hlo hws hcw (fun a' U hW => word_at hW (Or.inl (by first | rfl | simp [Cond.onTables, Cond.keeps, Cond.steady])) hini)
  obtain ⟨hx, hb, hml, ho, -⟩ := S
  obtain ⟨-, ⟨cellB, hcB, hoB, hclB⟩, hPc⟩ := hp
  intro T hT X
  rcases vx_callVX X hx (C := C) (hh := hh) (bytes := bytes) (maxL := maxL) (ret := ret) ho hl hin hse hcode hy hK (by rw [hT]; exact hcB) hoB hclB hg (hsize.trans hml.symm) (argsL := As) (rest := rest) (fun sig h => hn.trans (hlen sig h)) hstack hW (by rw [hb]; exact hdg)
    (fun vm₁ hW₁ => ⟨hf.1, hf.2, hPc (T.setVm vm₁) hT hW₁⟩) with ⟨v, vm₁, ⟨U', l2, c2, s2⟩, hW₁, X', ⟨g', mk, t, L, e1, e2, hq, h1, hL, h2, h3⟩, st⟩ | ⟨q, vm₁, ⟨U', l2, c2, s2⟩, hW₁, X', ⟨g', mk, t, L, E, ce, e1, e2, hq, hce, hcv, hcl, h1, hL, h2, h3⟩, st⟩
  · dsimp only [Pt.U, Pt.locs, Pt.cells, Pt.slots] at X' e1 e2 h1 h2 h3 st
    subst h1; subst h2; subst h3
    exact Or.inl ⟨v, (T.setVm vm₁).calling g' mk (Value.ref b :: As).toArray, t, U', L, hT, X', hL, e1, e2, hq, st⟩
  · dsimp only [Pt.U, Pt.locs, Pt.cells, Pt.slots] at X' e1 e2 h1 h2 h3 st hcl
    subst h1; subst h2; subst h3
    exact Or.inr ⟨q, (T.setVm vm₁).calling g' mk (Value.ref b :: As).toArray, t, U', L, E, ce, hT, X', hL, e1, e2, hq, hce, hcv, vx_cls hW₁ hcl, st⟩
theorem vx_runSX {hh : List (Nat × Nat × Nat × Nat)} (S : CallFix p m c cc nL s args Ts own) (hM : vx_Met l y ws rm Pc Qc XC mc ms free) (cw : vx_CSW R s args own index y bytes maxL ret hh ws rm mc ms n) (hp : PreS s H Pc As)
    (hg : g.method = m) (hn : As.length = n) (hsize : g.locals.size = nL) (hstack : g.stack = As.reverse ++ rest) (hW : 2 * g.monitorRoom + (rest.map fun v => v.category).sum ≤ 8) (hdg : decode cc g.pc = .ok (.invokestatic index, 3)) (hf : cells + mc ≤ R.cells ∧ slots + ms ≤ R.slots) :
    vx_Run p l e R s m args below meth c H locs cells slots mc ms g rest (Qc As.toArray) XC free := by
  obtain ⟨⟨hrc, hrs, hfr, hlo, hws, hcw⟩, hcode, hini, hy, hlen, hl, hstt⟩ := cw
  have hK : vx_Back l R p e below s args y 3 8 (PreOf R mc ms Pc) (PostOf Qc mc ms free) (vx_Post XC mc ms free) := vx_backW (hh := hh) (bytes := bytes) (maxL := maxL) (ret := ret) hM hp.1 hrc hrs hfr hlo hws hcw (fun a' U hW => word_at hW (Or.inl (by first | rfl | simp [Cond.onTables, Cond.keeps, Cond.steady])) hini)
  obtain ⟨hx, hb, hml, ho, -⟩ := S
  intro T hT X
  rcases vx_callSX X hx (hh := hh) (bytes := bytes) (maxL := maxL) (ret := ret) ho hl hstt hini hcode hy hK hg (hsize.trans hml.symm) (argsL := As) (rest := rest) (fun sig h => hn.trans (hlen sig h)) hstack hW (by rw [hb]; exact hdg)
    (fun vm₁ hW₁ => ⟨hf.1, hf.2, hp.2 (T.setVm vm₁) hT hW₁⟩) with ⟨v, vm₁, ⟨U', l2, c2, s2⟩, hW₁, X', ⟨g', mk, t, L, e1, e2, hq, h1, hL, h2, h3⟩, st⟩ | ⟨q, vm₁, ⟨U', l2, c2, s2⟩, hW₁, X', ⟨g', mk, t, L, E, ce, e1, e2, hq, hce, hcv, hcl, h1, hL, h2, h3⟩, st⟩
  · dsimp only [Pt.U, Pt.locs, Pt.cells, Pt.slots] at X' e1 e2 h1 h2 h3 st
    subst h1; subst h2; subst h3
    exact Or.inl ⟨v, (T.setVm vm₁).calling g' mk As.toArray, t, U', L, hT, X', hL, e1, e2, hq, st⟩
  · dsimp only [Pt.U, Pt.locs, Pt.cells, Pt.slots] at X' e1 e2 h1 h2 h3 st hcl
    subst h1; subst h2; subst h3
    exact Or.inr ⟨q, (T.setVm vm₁).calling g' mk As.toArray, t, U', L, E, ce, hT, X', hL, e1, e2, hq, hce, hcv, vx_cls hW₁ hcl, st⟩
end
end VXH
theorem vx_ofWH {l : Launch} {y : MethodName} {ws ws' : List Cond} {rm : Room} {Pc : Array Value → State → Prop} {Qc : Array Value → State → Outcome → State → Prop} {XC : String → State → State → Prop} {mc ms : Nat} {free : Addr → Prop} {cc : ByteArray} {maxL : Nat} {ret : Option FieldType} {hh : List (Nat × Nat × Nat × Nat)}
    (hy : plainName y.cls = true) (hw : ws = Cond.codeWith y cc maxL ret hh :: ws')
    (body : ∀ p e s m args below meth c s₁, BodyLoose p l y (headSpec ws rm) cc maxL ret e s m args below meth c s₁ → c.maxLocals = maxL → Pc args s →
      W p l e (headSpec ws rm).room s m args below meth c s.heap [] 0 0 (vx_MQ below Qc XC args s mc ms free) (entryFrame m args maxL)) : vx_Met l y ws rm Pc Qc XC mc ms free := by
  refine MetFree.of_bodyS (code := cc) (maxLocals := maxL) (ret := ret) hy ?_ ?_
  · intro args s m h hn
    obtain ⟨m9, meth, c, hn9, h1, h2, h3, h4, -, h5, h6, -⟩ := Cond.codeWith_spec (atoms_spec (ws := ws) h _ (by rw [hw]; exact List.mem_cons_self))
    cases hn.symm.trans hn9
    exact ⟨meth, c, h1, h2, h3, h4, h5, h6⟩
  · intro p e s m args below meth c s₁ B hml hP _
    have hh0 : s₁.heap = s.heap := by rw [B.state]; rfl
    obtain ⟨t, a1, o, b1, b2, b3⟩ := body p e s m args below meth c s₁ B hml hP s₁ hh0 (Stand.of_body B)
    exact ⟨t, o, a1, b1, b2, b3⟩
/-! ===== END ===== -/
/-! ===== BEGIN what the machine throws by itself, no traces kept ===== -/
section VXM
set_option maxHeartbeats 1000000 in
/-- the machine throws cls with the message text, no traces kept: from its note over the frame g to 'throwing' over the same frame (follows the proofs of Stand.vmThrowsMessage, Shelf/KitTracedVmS.lean, and Stand.throwsMessageColdBareV, StandMessageColdV.lean, without the step out of the frame) -/
theorem vx_vmAt {p : Program} {l : Launch} {e : Env} {R : Room} {s : State} {m₀ : MethodId} {args : Array Value} {below : List Frame} {meth : Method} {c : Code} {W : State} {locs : List Loc} {cells slots : Nat}
    (X : Stand p l e R s m₀ args below meth c W locs cells slots) (hexec : p.tables.exec = Jvm.exec) (htr : e.platform.stackTraces = false) {cls : String} {names : List String} {text : String}
    (hcls : Bundle.fit cls = true) (hnames : ∀ n ∈ names, Bundle.fit n = true) (hsoe : (cls == "java/lang/StackOverflowError") = false) (hoom : (cls == "java/lang/OutOfMemoryError") = false)
    (h : ∀ a ∈ Bundle.messageArmAtoms cls names, a.before args s = true)
    (hlocs : ∀ x ∈ locs, ∀ cell, s.heap[x.base]? = some cell → cell.vm.isStatics = false)
    (htext : (text == notModelled) = false) (hlimit : ¬ (stringBytes (stringToUtf16 text)).size > e.platform.arrayLengthLimit) (hheap : ¬ (stringBytes (stringToUtf16 text)).size * componentBytes .byte > e.platform.maxHeapBytes)
    {g : JFrame} (hg : g.method = m₀) (hsize : g.locals.size = c.maxLocals)
    (hRframes : names.length + 4 < R.frames) (hRlocals : 2 * g.monitorRoom + (g.stack.map fun v => v.category).sum + 10240 ≤ R.locals) (hshort : 13 * names.length + 55 ≤ 10240)
    (hRcells : cells + 3 ≤ R.cells) (hRslots : slots + ((stringBytes (stringToUtf16 text)).size + 4 + 6) ≤ R.slots) (hlocks : meth.locks = false) :
    ∃ (S : State) (q : Addr) (ce : Cell), (∀ target, Steps p.tables e below ((S.setTop g).pushFrame (.throwing q)) target → Steps p.tables e below ((W.setTop g).pushFrame (.throwNew cls (some text) none)) target) ∧
      Stand p l e R s m₀ args below meth c S locs (cells + 3) (slots + ((stringBytes (stringToUtf16 text)).size + 4 + 6)) ∧ S.heap[q]? = some ce ∧ s.vm.findClass cls = some ce.cls ∧ ce.vm = .none := by
  have howns : e.platform.frameOwnsMonitors = true := by rw [X.admits.platform]
  have hfin : e.platform.finalization = false := by rw [X.admits.platform]
  have hpl : e.platform.magicAccessors = ({} : Platform).magicAccessors := by rw [X.admits.platform]
  have a : ∀ x, x ∈ Bundle.messageArmAtoms cls names → x.holds args s none s [] = true := fun x hx => h x hx
  obtain ⟨T, Z0, L, -, Y⟩ := ThrowableC.of_atoms (args := args) howns hfin hpl (fun x hx => h x (by simp [Bundle.messageArmAtoms, hx]))
  obtain ⟨Z, M, LZ, LM, hnZ⟩ := Init0T.ofS_atoms (args := args) hpl L Y (fun x hx => h x (by simp [Bundle.messageArmAtoms, hx]))
  obtain ⟨P1, Ps, hlen, L1, hL, hP1m, hlink1, hlink⟩ := Bundle.chainS (args := args) hpl hnZ names cls hcls hnames (fun x hx => h x (by simp [Bundle.messageArmAtoms, hx]))
  obtain ⟨Zs, LZs, hn4, hfitv, hfitc⟩ := StringT.of_atoms (args := args) (fun x hx => h x (by simp [Bundle.messageArmAtoms, hx]))
  have hfound : s.vm.findClass cls = some P1.m.cls := findClass_of_methodNamed hP1m
  obtain ⟨c1, kX, hc1, hk, hord, -, -, hn6⟩ := Cond.instantiable_spec (a (.instantiable cls 6) (by simp [Bundle.messageArmAtoms]))
  cases Option.some.inj (hc1.symm.trans hfound)
  have hinit := Cond.initialized_spec hfound hk (a (.initialized cls) (by simp [Bundle.messageArmAtoms]))
  have hctor : kX.findMethod "<init>" "(Ljava/lang/String;)V" = some P1.m.idx := findMethod_of_methodNamed hP1m hk
  have hsel0 : selectMethod e.platform s.vm P1.m.cls T.fill0 = .method T.fill0 := by
    obtain ⟨c2, r2, m2, q1, q2, q3, q4, -⟩ := Cond.selects_spec (a (.selects cls Bundle.tFill0 Bundle.tFill0) (by simp [Bundle.messageArmAtoms]))
    cases Option.some.inj (q1.symm.trans hfound)
    cases Option.some.inj (q2.symm.trans (State.methodFound?_of_named Y.fill0 (by decide)))
    cases Option.some.inj (q3.symm.trans Y.fill0)
    rw [Launch.admits_selectMethod X.admits]; exact q4
  have hselF : selectMethod e.platform s.vm P1.m.cls T.fill = .method T.fill := by
    obtain ⟨c2, r2, m2, q1, q2, q3, q4, -⟩ := Cond.selects_spec (a (.selects cls Bundle.tFill Bundle.tFill) (by simp [Bundle.messageArmAtoms]))
    cases Option.some.inj (q1.symm.trans hfound)
    cases Option.some.inj (q2.symm.trans (State.methodFound?_of_named Y.fill (by decide)))
    cases Option.some.inj (q3.symm.trans Y.fill)
    rw [Launch.admits_selectMethod X.admits]; exact q4
  obtain ⟨cellS0, hcS0, hiss⟩ := Y.statics
  obtain ⟨u0, hu0⟩ := Cond.staticRefV Y.unassigned L.unassignedStatic L.statics hcS0 hiss (a (.isRef (.static Bundle.tN "UNASSIGNED_STACK" Bundle.steD)) (by simp [Bundle.messageArmAtoms]))
  obtain ⟨sen, hsen⟩ := Cond.staticRefV Y.sentinel L.sentinelStatic L.statics hcS0 hiss (a (.isRef (.static Bundle.tN "SUPPRESSED_SENTINEL" Bundle.listD)) (by simp [Bundle.messageArmAtoms]))
  obtain ⟨ci198, i198, fB, hk198, hg198, ha198, hsB, -, hnB, htB, hffB⟩ := Cond.ownField (t := .object "java/lang/Object") Y.found L.cls (by decide +kernel) (a (.fieldLink Bundle.tN 198 Bundle.tN "backtrace" "Ljava/lang/Object;") (by simp [Bundle.messageArmAtoms])) (a (.lays Bundle.tN Bundle.tN "backtrace" "Ljava/lang/Object;") (by simp [Bundle.messageArmAtoms])) e.platform hpl
  obtain ⟨cellS, hcS', heS, -, hkeep⟩ := X.same.2.2.2.2.2 T.aS cellS0 hcS0
  have hcellS : W.heap[T.aS]? = some cellS := hcS'
  have hout' : ∀ i, (⟨T.aS, i⟩ : Loc) ∉ locs := fun i hmem => by
    have := hlocs _ hmem cellS0 hcS0
    rw [hiss] at this; cases this
  have hknownS : cellS.vm ≠ .unknown := by
    rw [heS]; intro hu
    rw [show cellS0.vm = .unknown from hu] at hiss
    cases hiss
  have hvU : cellS.slots[T.fUnassigned.slot]? = some u0.v := by rw [hkeep _ (hout' _)]; exact hu0
  have hvSen : cellS.slots[T.fSentinel.slot]? = some sen.v := by rw [hkeep _ (hout' _)]; exact hsen
  obtain ⟨iM, hffM⟩ := Y.msg
  obtain ⟨tyC, dC, hdC, hdnC⟩ := Cond.laysAt hfound hk Y.cause (a (.lays cls Bundle.tN "cause" "Ljava/lang/Throwable;") (by simp [Bundle.messageArmAtoms]))
  obtain ⟨tyS, dS, hdS, hdnS⟩ := Cond.laysAt hfound hk Y.stack (a (.lays cls Bundle.tN "stackTrace" Bundle.steD) (by simp [Bundle.messageArmAtoms]))
  obtain ⟨tyP, dP, hdP, hdnP⟩ := Cond.laysAt hfound hk Y.supp (a (.lays cls Bundle.tN "suppressedExceptions" Bundle.listD) (by simp [Bundle.messageArmAtoms]))
  obtain ⟨tyM, dM, hdM, hdnM⟩ := Cond.laysAt hfound hk hffM (a (.lays cls Bundle.tN "detailMessage" "Ljava/lang/String;") (by simp [Bundle.messageArmAtoms]))
  obtain ⟨tyB, dB, hdB, hdnB⟩ := Cond.laysAt hfound hk hffB (a (.lays cls Bundle.tN "backtrace" "Ljava/lang/Object;") (by simp [Bundle.messageArmAtoms]))
  have bC := Cond.laysApart hdB hdC hdnB hdnC (by rw [hnB, Y.causeName]; decide)
  have bS := Cond.laysApart hdB hdS hdnB hdnS (by rw [hnB, Y.stackName]; decide)
  have bP := Cond.laysApart hdB hdP hdnB hdnP (by rw [hnB, Y.suppName]; decide)
  have hbk : ((preparedCellV T.toThrowableT (freshCell P1.m.cls kX) (W.heap.size + 2) u0 sen).withEntry W.cur).slots[fB.slot]? = some .null := by
    have := fresh_default (c := P1.m.cls) tyB
    rw [htB] at this
    simpa [preparedCellV, Cell.setSlot, Cell.withEntry, Array.getElem?_setIfInBounds, bC, bS, bP, bC.symm, bS.symm, bP.symm, defaultValue] using this
  have tkC := Takes.of_laid (v := .ref (W.heap.size + 2)) hk hord tyC (by rw [Y.causeType]; rfl)
  have tkS := Takes.of_laid (v := u0.v) hk hord tyS (by rw [Y.stackType]; exact fits_refV_array _ u0)
  have tkP := Takes.of_laid (v := sen.v) hk hord tyP (by rw [Y.suppType]; exact fits_refV_object _ sen)
  have tkM := Takes.of_laid (v := .ref (W.heap.size + 1)) hk hord tyM (by rw [Y.msgType]; rfl)
  have hskip : SkipFacts T e.platform s (fun u => u) u0 ((preparedCellV T.toThrowableT (freshCell P1.m.cls kX) (W.heap.size + 2) u0 sen).withEntry W.cur) := ⟨{ ci198 := ci198, i198 := i198, fBack := fB }, ⟨hk198, hg198, ha198, hsB⟩, hbk, fun _ _ => rfl⟩
  have h0 : At W g.method c below := by rw [hg]; exact X.here
  obtain ⟨hbeyond, hfreeW⟩ := X.vmMayThrow hsize (.throwNew cls (some text) none) (fun f hf => by cases hf) rfl hRlocals
  have hfr' : W.frames.length + Ps.length + 4 < (e.platform.stackLimits W.me).1 := by have := X.framesAbove hRframes; omega
  have hwd' : (stackUse (.java g :: W.frames.tail)).2 + 13 * Ps.length + 55 ≤ (e.platform.stackLimits W.me).2 := by have := X.stackAbove hsize (K := 13 * Ps.length + 55) (by omega); omega
  have hslots : W.slotsUsed + (stringBytes (stringToUtf16 text)).size + Zs.kS.instanceTypes.size + kX.instanceTypes.size ≤ e.platform.maxSlots := by
    have := X.slotsAbove hRslots
    rw [hn4, hn6]
    omega
  obtain ⟨vm', hW', st⟩ := Steps.vmThrowsMessageColdByV p (s₀ := s) (S := W) (g := g) h0 hexec T L Z LZ M LM X.warmed (t := W.cur) rfl Zs LZs P1 L1 Ps hL hlink1 hlink hsoe hoom hfound hk hinit hord hctor
    (Launch.admits_hotImplicitExceptions X.admits) hbeyond hfreeW htext hlimit hheap (X.cellsAbove hRcells) hslots (hfitv _) (hfitc _)
    (Nn := fun u => u) heapOnly_id (fun _ _ => rfl) (fun _ => rfl) (fun u x y => setCell_twice _ _ _ _) (fun _ => Nat.le_refl _) (cN := ((preparedCellV T.toThrowableT (freshCell P1.m.cls kX) (W.heap.size + 2) u0 sen).withEntry W.cur))
    hsel0 hcellS hknownS hvU tkS (fun _ hu => hu) (fun _ hu => hu) rfl rfl rfl (by simp [preparedCellV, Cell.setSlot, Cell.withEntry]) hskip (fun _ _ hA hW _ hroom _ hrest => L.nativeOff p htr hA hW hroom hrest) hselF hvSen tkC tkP tkM Y.objLocals rfl hfr' hwd'
  rw [plainBareV_eq T.toThrowableT (W.heap.size + 2) u0 sen (.ref (W.heap.size + 1)) W.cur rfl rfl] at st
  obtain ⟨-, -, w3, w4, -, -, -⟩ := withThrown_facts e.platform W Zs text P1.m.cls kX
  have X3 := ((X.pushed (bytesOf Zs.cB (stringToUtf16 text))).pushed (stringAt Zs.cS Zs.kS Zs.fv Zs.fc (stringToUtf16 text) W.heap.size)).pushed (freshCell P1.m.cls kX)
  rw [← withString_eq] at X3
  have X4 := X3.noted hW'
  have ha : (W.heap.size + 2) < ((withThrown W Zs text P1.m.cls kX).setVm vm').heap.size := by show _ < (withThrown W Zs text P1.m.cls kX).heap.size; rw [w3]; omega
  have hcell : ((withThrown W Zs text P1.m.cls kX).setVm vm').heap[(W.heap.size + 2)]? = some (freshCell P1.m.cls kX) := w4
  have X5 := ((((X4.stored hcell T.fCause.slot (.ref (W.heap.size + 2))).storedAgain ha T.fStack.slot u0.v).storedAgain ha T.fSupp.slot sen.v).storedAgain ha T.fStack.slot u0.v).storedAgain ha T.fMsg.slot (.ref (W.heap.size + 1))
  obtain ⟨g₁, hfrM⟩ := X5.frames_eq
  have hU : ((((withThrown W Zs text P1.m.cls kX).setVm vm').setCell (W.heap.size + 2) (plainBareV T.toThrowableT (freshCell P1.m.cls kX) (W.heap.size + 2) u0 sen (.ref (W.heap.size + 1)))).setTop g).pushFrame (.throwing (W.heap.size + 2)) = (((withThrown W Zs text P1.m.cls kX).setVm vm').setCell (W.heap.size + 2) (plainBareV T.toThrowableT (freshCell P1.m.cls kX) (W.heap.size + 2) u0 sen (.ref (W.heap.size + 1)))).setFrames (.throwing (W.heap.size + 2) :: .java g :: below) := by
    rw [State.pushFrame, State.frames_setTop _ hfrM, State.setTop_of_frames _ hfrM, State.setFrames_setFrames]
  have b1 : (bytesOf Zs.cB (stringToUtf16 text)).slots.size = (stringBytes (stringToUtf16 text)).size := by
    rw [(Cell.writeAll_facts _ _).2.2]; simp [bytes0]
  have b2 : (stringAt Zs.cS Zs.kS Zs.fv Zs.fc (stringToUtf16 text) W.heap.size).slots.size = 4 := by simp [string0, Cell.setSlot, hn4]
  have b3 : (freshCell P1.m.cls kX).slots.size = 6 := by simp [hn6]
  rw [b1, b2, b3] at X5
  have e9 : slots + (stringBytes (stringToUtf16 text)).size + 4 + 6 = slots + ((stringBytes (stringToUtf16 text)).size + 4 + 6) := by omega
  rw [e9] at X5
  simp only [List.append_assoc, List.cons_append, List.nil_append] at X5
  refine ⟨((withThrown W Zs text P1.m.cls kX).setVm vm').setCell (W.heap.size + 2) (plainBareV T.toThrowableT (freshCell P1.m.cls kX) (W.heap.size + 2) u0 sen (.ref (W.heap.size + 1))), W.heap.size + 2, _, fun target ht => st _ (by rw [X.tail, ← hU]; exact ht),
    X5.forget (fun y hy => ?_), heapAt_setCell_self _ ha, hfound, rfl⟩
  simp only [List.mem_cons, List.not_mem_nil, or_false] at hy
  have hge : s.heap.size ≤ W.heap.size := X.same.2.1
  rcases hy with rfl | rfl | rfl | rfl | rfl <;> exact Nat.le_trans hge (Nat.le_add_right _ 2)
set_option maxHeartbeats 1000000 in
/-- the machine throws NullPointerException, no traces kept: from its note over the frame g to 'throwing' over the same frame (follows the proof of Stand.vmThrowsNpe, Shelf42/KT2.lean; throwsNpeColdBareVAt, Shelf42/NT91.lean, called) -/
theorem vx_npeAt {p : Program} {l : Launch} {e : Env} {R : Room} {s : State} {m₀ : MethodId} {args : Array Value} {below : List Frame} {meth : Method} {c : Code} {W : State} {locs : List Loc} {cells slots : Nat}
    (X : Stand p l e R s m₀ args below meth c W locs cells slots) (hexec : p.tables.exec = Jvm.exec) (htr : e.platform.stackTraces = false) {n : Nat}
    (h : ∀ a ∈ Bundle.npeArmAtoms n, a.before args s = true)
    (hlocs : ∀ x ∈ locs, ∀ cell, s.heap[x.base]? = some cell → cell.vm.isStatics = false)
    {g : JFrame} (hg : g.method = m₀) (hsize : g.locals.size = c.maxLocals)
    (hRframes : 7 < R.frames) (hRlocals : 2 * g.monitorRoom + (g.stack.map fun v => v.category).sum + 10240 ≤ R.locals)
    (hRcells : cells + 1 ≤ R.cells) (hRslots : slots + n ≤ R.slots) (hlocks : meth.locks = false) :
    ∃ (S : State) (q : Addr) (ce : Cell), (∀ target, Steps p.tables e below ((S.setTop g).pushFrame (.throwing q)) target → Steps p.tables e below ((W.setTop g).pushFrame (.throwNew "java/lang/NullPointerException" none none)) target) ∧
      Stand p l e R s m₀ args below meth c S locs (cells + 1) (slots + n) ∧ S.heap[q]? = some ce ∧ s.vm.findClass "java/lang/NullPointerException" = some ce.cls ∧ ce.vm = .none := by
  have howns : e.platform.frameOwnsMonitors = true := by rw [X.admits.platform]
  have hfin : e.platform.finalization = false := by rw [X.admits.platform]
  have hpl : e.platform.magicAccessors = ({} : Platform).magicAccessors := by rw [X.admits.platform]
  have hpl2 : e.platform.arrayCloneIsPublic = true := by rw [X.admits.platform]
  have a' : ∀ x, x ∈ Bundle.npeArmAtoms n → x.holds args s none s [] = true := fun x hx => h x hx
  obtain ⟨T, Z, L, LZ, Y⟩ := ThrowableC.of_atoms (args := args) howns hfin hpl (fun x hx => h x (by simp [Bundle.npeArmAtoms, hx]))
  obtain ⟨N, LN, hcN, hnNF, hordN, hffS⟩ := NpeC.of_atoms (args := args) hpl hpl2 L Y (fun x hx => h x (by simp [Bundle.npeArmAtoms, hx]))
  obtain ⟨P1, L1, hP1m, hP1s⟩ := PassC.of_atoms (args := args) (s := s) hpl (X := Bundle.nN) (Y := Bundle.rN) (by decide) (by decide) LibCode.NullPointerException.Init0.at_0 LibCode.NullPointerException.Init0.at_1 LibCode.NullPointerException.Init0.at_4 (fun x hx => h x (by simp [Bundle.npeArmAtoms, hx]))
  obtain ⟨PR, LR, hPRm, hPRs⟩ := PassC.of_atoms (args := args) (s := s) hpl (X := Bundle.rN) (Y := Bundle.eN) (by decide) (by decide) LibCode.RuntimeException.Init0.at_0 LibCode.RuntimeException.Init0.at_1 LibCode.RuntimeException.Init0.at_4 (fun x hx => h x (by simp [Bundle.npeArmAtoms, hx]))
  obtain ⟨PE, LEx, hPEm, hPEs⟩ := PassC.of_atoms (args := args) (s := s) hpl (X := Bundle.eN) (Y := Bundle.tN) (by decide) (by decide) LibCode.Exception.Init0.at_0 LibCode.Exception.Init0.at_1 LibCode.Exception.Init0.at_4 (fun x hx => h x (by simp [Bundle.npeArmAtoms, hx]))
  have hfound : s.vm.findClass Bundle.nN = some P1.m.cls := findClass_of_methodNamed hP1m
  have ecls : N.cN = P1.m.cls := Option.some.inj (hcN.symm.trans hfound)
  have hk : s.vm.classes[P1.m.cls]? = some N.kN := by rw [← ecls]; exact LN.cls
  have hinit := Cond.initialized_spec hfound hk (a' (.initialized Bundle.nN) (by simp [Bundle.npeArmAtoms]))
  have hctor : N.kN.findMethod "<init>" "()V" = some P1.m.idx := findMethod_of_methodNamed hP1m hk
  obtain ⟨c1, k1, hc1, hk1, -, -, -, hn⟩ := Cond.instantiable_spec (a' (.instantiable Bundle.nN n) (by simp [Bundle.npeArmAtoms]))
  cases Option.some.inj (hc1.symm.trans hfound)
  cases Option.some.inj (hk1.symm.trans hk)
  have hfsz : (freshCell P1.m.cls N.kN).slots.size = n := by simp [hn]
  have hlink1 : P1.sup = PR.m := Option.some.inj (hP1s.symm.trans hPRm)
  have hlinkR : PR.sup = PE.m := Option.some.inj (hPRs.symm.trans hPEm)
  have hlinkE : PE.sup = Z.m T.toThrowableT := Option.some.inj (hPEs.symm.trans Y.init0)
  have hLs : ∀ P, P ∈ [PR, PE] → P.Links0 e.platform s := fun P hP => by
    simp only [List.mem_cons, List.not_mem_nil, or_false] at hP
    rcases hP with rfl | rfl
    · exact LR
    · exact LEx
  have hsel0 : selectMethod e.platform s.vm P1.m.cls T.fill0 = .method T.fill0 := by
    obtain ⟨c2, r2, m2, q1, q2, q3, q4, -⟩ := Cond.selects_spec (a' (.selects Bundle.nN Bundle.tFill0 Bundle.tFill0) (by simp [Bundle.npeArmAtoms]))
    cases Option.some.inj (q1.symm.trans hfound)
    cases Option.some.inj (q2.symm.trans (State.methodFound?_of_named Y.fill0 (by decide)))
    cases Option.some.inj (q3.symm.trans Y.fill0)
    rw [Launch.admits_selectMethod X.admits]; exact q4
  have hselF : selectMethod e.platform s.vm P1.m.cls T.fill = .method N.fill := by
    obtain ⟨c2, r2, m2, q1, q2, q3, q4, -⟩ := Cond.selects_spec (a' (.selects Bundle.nN Bundle.tFill Bundle.nFill) (by simp [Bundle.npeArmAtoms]))
    cases Option.some.inj (q1.symm.trans hfound)
    cases Option.some.inj (q2.symm.trans (State.methodFound?_of_named Y.fill (by decide)))
    cases Option.some.inj (q3.symm.trans hnNF)
    rw [Launch.admits_selectMethod X.admits]; exact q4
  obtain ⟨cellS0, hcS0, hiss⟩ := Y.statics
  obtain ⟨u0, hu0⟩ := Cond.staticRefV Y.unassigned L.unassignedStatic L.statics hcS0 hiss (a' (.isRef (.static Bundle.tN "UNASSIGNED_STACK" Bundle.steD)) (by simp [Bundle.npeArmAtoms]))
  obtain ⟨sen, hsen⟩ := Cond.staticRefV Y.sentinel L.sentinelStatic L.statics hcS0 hiss (a' (.isRef (.static Bundle.tN "SUPPRESSED_SENTINEL" Bundle.listD)) (by simp [Bundle.npeArmAtoms]))
  obtain ⟨ci198, i198, fB, hk198, hg198, ha198, hsB, -, hnB, htB, hffB⟩ := Cond.ownField (t := .object "java/lang/Object") Y.found L.cls (by decide +kernel) (a' (.fieldLink Bundle.tN 198 Bundle.tN "backtrace" Bundle.objD) (by simp [Bundle.npeArmAtoms])) (a' (.lays Bundle.tN Bundle.tN "backtrace" Bundle.objD) (by simp [Bundle.npeArmAtoms])) e.platform hpl
  obtain ⟨cellS, hcS', heS, -, hkeep⟩ := X.same.2.2.2.2.2 T.aS cellS0 hcS0
  have hcellS : W.heap[T.aS]? = some cellS := hcS'
  have hout' : ∀ i, (⟨T.aS, i⟩ : Loc) ∉ locs := fun i hmem => by
    have := hlocs _ hmem cellS0 hcS0
    rw [hiss] at this; cases this
  have hknownS : cellS.vm ≠ .unknown := by
    rw [heS]; intro hu
    rw [show cellS0.vm = .unknown from hu] at hiss
    cases hiss
  have hvU : cellS.slots[T.fUnassigned.slot]? = some u0.v := by rw [hkeep _ (hout' _)]; exact hu0
  have hvSen : cellS.slots[T.fSentinel.slot]? = some sen.v := by rw [hkeep _ (hout' _)]; exact hsen
  obtain ⟨tyC, dC, hdC, hdnC⟩ := Cond.laysAt hfound hk Y.cause (a' (.lays Bundle.nN Bundle.tN "cause" "Ljava/lang/Throwable;") (by simp [Bundle.npeArmAtoms]))
  obtain ⟨tyS, dS, hdS, hdnS⟩ := Cond.laysAt hfound hk Y.stack (a' (.lays Bundle.nN Bundle.tN "stackTrace" Bundle.steD) (by simp [Bundle.npeArmAtoms]))
  obtain ⟨tyP, dP, hdP, hdnP⟩ := Cond.laysAt hfound hk Y.supp (a' (.lays Bundle.nN Bundle.tN "suppressedExceptions" Bundle.listD) (by simp [Bundle.npeArmAtoms]))
  obtain ⟨tyX, dX, hdX, hdnX⟩ := Cond.laysAt hfound hk hffS (a' (.lays Bundle.nN Bundle.nN "extendedMessageState" "I") (by simp [Bundle.npeArmAtoms, Bundle.npeAtoms]))
  obtain ⟨hnX, htX⟩ := State.fieldFound?_type hffS (t := .int) (by decide +kernel)
  have xC := Cond.laysApart hdC hdX hdnC hdnX (by rw [hnX, Y.causeName]; decide)
  have xS := Cond.laysApart hdS hdX hdnS hdnX (by rw [hnX, Y.stackName]; decide)
  have xP := Cond.laysApart hdP hdX hdnP hdnX (by rw [hnX, Y.suppName]; decide)
  have hv0 : (freshCell P1.m.cls N.kN).slots[N.fState.slot]? = some (.int 0) := by
    have := fresh_default (c := P1.m.cls) tyX
    rw [htX] at this; exact this
  obtain ⟨tyB, dB, hdB, hdnB⟩ := Cond.laysAt hfound hk hffB (a' (.lays Bundle.nN Bundle.tN "backtrace" Bundle.objD) (by simp [Bundle.npeArmAtoms]))
  have bC := Cond.laysApart hdB hdC hdnB hdnC (by rw [hnB, Y.causeName]; decide)
  have bS := Cond.laysApart hdB hdS hdnB hdnS (by rw [hnB, Y.stackName]; decide)
  have bP := Cond.laysApart hdB hdP hdnB hdnP (by rw [hnB, Y.suppName]; decide)
  have bX := Cond.laysApart hdB hdX hdnB hdnX (by rw [hnB, hnX]; decide)
  have hbk : ((npeCell N.toNpeT (preparedCellV T.toThrowableT (freshCell P1.m.cls N.kN) W.heap.size u0 sen) W.cur).withEntry W.cur).slots[fB.slot]? = some .null := by
    have := fresh_default (c := P1.m.cls) tyB
    rw [htB] at this
    simpa [npeCell, preparedCellV, Cell.setSlot, Cell.withEntry, Array.getElem?_setIfInBounds, bC, bS, bP, bX, bC.symm, bS.symm, bP.symm, bX.symm, defaultValue] using this
  have tkC := Takes.of_laid (v := .ref W.heap.size) hk hordN tyC (by rw [Y.causeType]; rfl)
  have tkS := Takes.of_laid (v := u0.v) hk hordN tyS (by rw [Y.stackType]; exact fits_refV_array _ u0)
  have tkP := Takes.of_laid (v := sen.v) hk hordN tyP (by rw [Y.suppType]; exact fits_refV_object _ sen)
  have tkX := Takes.of_laid (v := .int 1) hk hordN tyX (by rw [htX]; rfl)
  have hskip : SkipFacts T e.platform s (fun u => u) u0 ((npeCell N.toNpeT (preparedCellV T.toThrowableT (freshCell P1.m.cls N.kN) W.heap.size u0 sen) W.cur).withEntry W.cur) := ⟨{ ci198 := ci198, i198 := i198, fBack := fB }, ⟨hk198, hg198, ha198, hsB⟩, hbk, fun _ _ => rfl⟩
  obtain ⟨vm', X3, st, -⟩ := X.throwsNpeColdBareVAt hexec hg hsize T L Z LZ N LN P1 L1 [PR, PE] hLs hlink1 ⟨hlinkR, hlinkE, trivial⟩ hfound hk hinit hordN hctor hsel0 hselF hcellS hknownS hvU hvSen
    hv0 xC xS xP tkC tkS tkP tkX Y.objLocals hskip (fun _ _ hA hW _ hroom _ hrest => L.nativeOff p htr hA hW hroom hrest) (by simpa using hRframes) hRlocals (by simp) hRcells (by rw [hn]; exact hRslots)
  have hlt : W.heap.size < ((W.pushCell (freshCell P1.m.cls N.kN)).setVm vm').heap.size := by
    show W.heap.size < (W.pushCell (freshCell P1.m.cls N.kN)).heap.size
    rw [State.heap_size_pushCell]; omega
  rw [hfsz] at X3
  obtain ⟨g₁, hfrM⟩ := X3.frames_eq
  have hU : ((((W.pushCell (freshCell P1.m.cls N.kN)).setVm vm').setCell W.heap.size (npeBareV T.toThrowableT N.toNpeT (freshCell P1.m.cls N.kN) W.heap.size u0 sen)).setTop g).pushFrame (.throwing W.heap.size) = (((W.pushCell (freshCell P1.m.cls N.kN)).setVm vm').setCell W.heap.size (npeBareV T.toThrowableT N.toNpeT (freshCell P1.m.cls N.kN) W.heap.size u0 sen)).setFrames (.throwing W.heap.size :: .java g :: below) := by
    rw [State.pushFrame, State.frames_setTop _ hfrM, State.setTop_of_frames _ hfrM, State.setFrames_setFrames]
  refine ⟨_, W.heap.size, _, fun target ht => st.trans (by rw [← hU]; exact ht), X3.forget (fun y hy => ?_), heapAt_setCell_self _ hlt, hfound, rfl⟩
  simp only [List.mem_cons, List.not_mem_nil, or_false] at hy
  have hge : s.heap.size ≤ W.heap.size := X.same.2.1
  rcases hy with rfl | rfl | rfl | rfl | rfl <;> exact hge
/-- the words of a machine's NullPointerException, but the four that speak of the heap -/
def vx_atN (n : Nat) : List Cond := (Bundle.npeArmAtoms n).filter vx_no
/-- the words of a machine's throw with a message, but the four that speak of the heap -/
def vx_atM (X : String) (names : List String) : List Cond := (Bundle.messageArmAtoms X names).filter vx_no
section
variable {p : Program} {l : Launch} {e : Env} {R : Room} {s : State} {m : MethodId} {args : Array Value} {below : List Frame} {meth : Method} {c : Code} {H : Heap} {locs : List Loc} {cells slots : Nat}
/-- a frame seen from a rebased start, seen from the first start again -/
theorem vx_back9 {T S : State} {R' : Room} {k n : Nat} (X : Stand p l e R s m args below meth c T locs cells slots) (Y : Stand p l e R' ((T.setVm s.vm).setFrames (.invoking m args :: below)) m args below meth c T [] 0 0) (Z : Stand p l e R' ((T.setVm s.vm).setFrames (.invoking m args :: below)) m args below meth c S [] k n) :
    Stand p l e R s m args below meth c S locs (cells + k) (slots + n) := by
  have hW0 : s.WarmedH ((T.setVm s.vm).setFrames (.invoking m args :: below)).vm := State.WarmedH.refl s
  refine { admits := X.admits, cas := X.cas, clock := X.clock, frames := X.frames, room := X.room, hears := X.hears, method := X.method, code := X.code, here := Z.here, tail := Z.tail, warmed := State.WarmedH.trans hW0 Z.warmed, limits := Z.limits.trans (Y.limits.symm.trans X.limits), bytes := Z.bytes.trans (Y.bytes.symm.trans X.bytes), same := ?_ }
  obtain ⟨e1, e2⟩ := Z.same
  rw [State.setFrames_setFrames] at e1
  have h2 : (T.setVm s.vm).sameButNew (S.setVm s.vm) [] k n := ⟨e1, e2⟩
  have h3 := X.same.trans h2
  rw [List.append_nil] at h3
  exact h3
/-- from the machine's note that E is thrown here with this text -/
def vx_Note (p : Program) (l : Launch) (e : Env) (R : Room) (s : State) (m : MethodId) (args : Array Value) (below : List Frame) (meth : Method) (c : Code) (H : Heap) (locs : List Loc) (cells slots : Nat) (Q : State → Prop) (g : JFrame) (E text : String) : Prop :=
  ∀ T : State, T.heap = H → Stand p l e R s m args below meth c T locs cells slots → ∃ t, Steps p.tables e below ((T.setTop g).pushFrame (.throwNew E (some text) none)) t ∧ Q t
theorem vx_vm {pc : Nat} {ls : Array Slot} {rest : List Value} {Q : State → Prop} (hexec : p.tables.exec = Jvm.exec) (hl : l.stackTraces = false) {cls text : String} {names : List String} {nb : Nat} {A : Nat → Prop}
    (hcls : Bundle.fit cls = true) (hnames : ∀ n ∈ names, Bundle.fit n = true) (hsoe : (cls == "java/lang/StackOverflowError") = false) (hoom : (cls == "java/lang/OutOfMemoryError") = false)
    (hat : ∀ w ∈ vx_atM cls names, w.before args s = true) (hgood : ∀ w ∈ vx_atM cls names, vx_ot w = true)
    (hU : vx_Zq Bundle.tN "UNASSIGNED_STACK" Bundle.steD A s s.heap) (hN : vx_Zq Bundle.tN "SUPPRESSED_SENTINEL" Bundle.listD A s s.heap) (hS : va_S A s.heap H locs) (hsize : ls.size = c.maxLocals)
    (htext : (text == notModelled) = false) (hnb : (stringBytes (stringToUtf16 text)).size ≤ nb) (hnb1 : nb ≤ 1000)
    (hRframes : names.length + 4 < R.frames) (hRlocals : (rest.map fun v => v.category).sum + 10240 ≤ R.locals) (hshort : 13 * names.length + 55 ≤ 10240) (hRcells : cells + 3 ≤ R.cells) (hRslots : slots + (nb + 10) ≤ R.slots) (hlocks : meth.locks = false)
    (k : ∀ (H1 : Heap) (q9 : Addr) (ce : Cell), H.size ≤ H1.size → (∀ q : Nat, q < H.size → H1[q]? = H[q]?) → va_S A s.heap H1 locs → H1[q9]? = some ce → ce.vm = .none → s.vm.findClass cls = some ce.cls → vx_W p l e R s m args below meth c H1 locs (cells + 3) (slots + (nb + 10)) Q (F0 m pc ls rest) q9) :
    vx_Note p l e R s m args below meth c H locs cells slots Q (F0 m pc ls rest) cls text := by
  intro T hT X
  have htr : e.platform.stackTraces = false := (show e.platform.stackTraces = l.stackTraces by rw [X.admits.platform]).trans hl
  have Y := vx_rebase X (R' := { frames := R.frames, locals := R.locals, cells := 3, slots := nb + 10 }) (Nat.le_refl _) (Nat.le_refl _) hRcells hRslots
  have hhp : ((T.setVm s.vm).setFrames (.invoking m args :: below)).heap = H := hT
  have hW0 : s.WarmedH ((T.setVm s.vm).setFrames (.invoking m args :: below)).vm := State.WarmedH.refl s
  have hat' : ∀ w ∈ vx_atM cls names, w.before args ((T.setVm s.vm).setFrames (.invoking m args :: below)) = true := fun w hw => vx_ot_at hW0 rfl (hgood w hw) (hat w hw)
  have hU' : vx_Zq Bundle.tN "UNASSIGNED_STACK" Bundle.steD A ((T.setVm s.vm).setFrames (.invoking m args :: below)) ((T.setVm s.vm).setFrames (.invoking m args :: below)).heap := by rw [hhp]; exact vx_Zq.moved hW0.alike (hU.kept hS.2.1)
  have hN' : vx_Zq Bundle.tN "SUPPRESSED_SENTINEL" Bundle.listD A ((T.setVm s.vm).setFrames (.invoking m args :: below)) ((T.setVm s.vm).setFrames (.invoking m args :: below)).heap := by rw [hhp]; exact vx_Zq.moved hW0.alike (hN.kept hS.2.1)
  obtain ⟨S, q, ce, st, Z, hce, hcl', hv⟩ := vx_vmAt Y hexec htr (cls := cls) (names := names) (text := text) hcls hnames hsoe hoom (vx_own hat' (vx_isRefq hU'.1) (vx_isRefq hN'.1) hU'.2.word hN'.2.word) (fun x hx => nomatch hx) htext
    (by rw [Launch.admits_arrayLengthLimit X.admits]; omega) (by rw [Launch.admits_maxHeapBytes X.admits]; simp only [componentBytes]; omega)
    (g := F0 m pc ls rest) rfl hsize hRframes (by show 2 * 0 + (rest.map fun v => v.category).sum + 10240 ≤ R.locals; omega) hshort (by show 0 + 3 ≤ 3; omega) (by show 0 + (_ + 4 + 6) ≤ nb + 10; omega) hlocks
  obtain ⟨f1, f2⟩ := vx_frame Z.same
  have f1' : H.size ≤ S.heap.size := by rw [← hT]; exact f1
  have f2' : ∀ q : Nat, q < H.size → S.heap[q]? = H[q]? := fun q hq => by
    rw [← hT]
    exact f2 q (by rw [← hT] at hq; exact hq) (fun z hz => nomatch hz)
  have X5 := vx_back9 X Y Z
  have X6 : Stand p l e R s m args below meth c S locs (cells + 3) (slots + (nb + 10)) := { X5 with same := X5.same.mono (by omega) (by omega) }
  obtain ⟨t, a1, b1⟩ := k S.heap q ce f1' f2' ⟨Nat.le_trans hS.1 f1', fun q h1 h2 => (f2' q (Nat.lt_of_lt_of_le h1 hS.1)).trans (hS.2.1 q h1 h2), hS.2.2⟩ hce hv hcl' S rfl X6
  exact ⟨t, st t a1, b1⟩
/-- from the machine's note that NullPointerException is thrown here -/
def vx_NoteN (p : Program) (l : Launch) (e : Env) (R : Room) (s : State) (m : MethodId) (args : Array Value) (below : List Frame) (meth : Method) (c : Code) (H : Heap) (locs : List Loc) (cells slots : Nat) (Q : State → Prop) (g : JFrame) : Prop :=
  ∀ T : State, T.heap = H → Stand p l e R s m args below meth c T locs cells slots → ∃ t, Steps p.tables e below ((T.setTop g).pushFrame (.throwNew "java/lang/NullPointerException" none none)) t ∧ Q t
theorem vx_npe {pc : Nat} {ls : Array Slot} {rest : List Value} {Q : State → Prop} (hexec : p.tables.exec = Jvm.exec) (hl : l.stackTraces = false) {nb : Nat} {A : Nat → Prop}
    (hat : ∀ w ∈ vx_atN nb, w.before args s = true) (hgood : ∀ w ∈ vx_atN nb, vx_ot w = true)
    (hU : vx_Zq Bundle.tN "UNASSIGNED_STACK" Bundle.steD A s s.heap) (hN : vx_Zq Bundle.tN "SUPPRESSED_SENTINEL" Bundle.listD A s s.heap) (hS : va_S A s.heap H locs) (hsize : ls.size = c.maxLocals)
    (hRframes : 7 < R.frames) (hRlocals : (rest.map fun v => v.category).sum + 10240 ≤ R.locals) (hRcells : cells + 1 ≤ R.cells) (hRslots : slots + nb ≤ R.slots) (hlocks : meth.locks = false)
    (k : ∀ (H1 : Heap) (q9 : Addr) (ce : Cell), H.size ≤ H1.size → (∀ q : Nat, q < H.size → H1[q]? = H[q]?) → va_S A s.heap H1 locs → H1[q9]? = some ce → ce.vm = .none → s.vm.findClass "java/lang/NullPointerException" = some ce.cls → vx_W p l e R s m args below meth c H1 locs (cells + 1) (slots + nb) Q (F0 m pc ls rest) q9) :
    vx_NoteN p l e R s m args below meth c H locs cells slots Q (F0 m pc ls rest) := by
  intro T hT X
  have htr : e.platform.stackTraces = false := (show e.platform.stackTraces = l.stackTraces by rw [X.admits.platform]).trans hl
  have Y := vx_rebase X (R' := { frames := R.frames, locals := R.locals, cells := 1, slots := nb }) (Nat.le_refl _) (Nat.le_refl _) hRcells hRslots
  have hhp : ((T.setVm s.vm).setFrames (.invoking m args :: below)).heap = H := hT
  have hW0 : s.WarmedH ((T.setVm s.vm).setFrames (.invoking m args :: below)).vm := State.WarmedH.refl s
  have hat' : ∀ w ∈ vx_atN nb, w.before args ((T.setVm s.vm).setFrames (.invoking m args :: below)) = true := fun w hw => vx_ot_at hW0 rfl (hgood w hw) (hat w hw)
  have hU' : vx_Zq Bundle.tN "UNASSIGNED_STACK" Bundle.steD A ((T.setVm s.vm).setFrames (.invoking m args :: below)) ((T.setVm s.vm).setFrames (.invoking m args :: below)).heap := by rw [hhp]; exact vx_Zq.moved hW0.alike (hU.kept hS.2.1)
  have hN' : vx_Zq Bundle.tN "SUPPRESSED_SENTINEL" Bundle.listD A ((T.setVm s.vm).setFrames (.invoking m args :: below)) ((T.setVm s.vm).setFrames (.invoking m args :: below)).heap := by rw [hhp]; exact vx_Zq.moved hW0.alike (hN.kept hS.2.1)
  obtain ⟨S, q, ce, st, Z, hce, hcl', hv⟩ := vx_npeAt Y hexec htr (n := nb) (vx_own hat' (vx_isRefq hU'.1) (vx_isRefq hN'.1) hU'.2.word hN'.2.word) (fun x hx => nomatch hx)
    (g := F0 m pc ls rest) rfl hsize hRframes (by show 2 * 0 + (rest.map fun v => v.category).sum + 10240 ≤ R.locals; omega) (by show 0 + 1 ≤ 1; omega) (by show 0 + nb ≤ nb; omega) hlocks
  obtain ⟨f1, f2⟩ := vx_frame Z.same
  have f1' : H.size ≤ S.heap.size := by rw [← hT]; exact f1
  have f2' : ∀ q : Nat, q < H.size → S.heap[q]? = H[q]? := fun q hq => by
    rw [← hT]
    exact f2 q (by rw [← hT] at hq; exact hq) (fun z hz => nomatch hz)
  have X5 := vx_back9 X Y Z
  have X6 : Stand p l e R s m args below meth c S locs (cells + 1) (slots + nb) := { X5 with same := X5.same.mono (by omega) (by omega) }
  obtain ⟨t, a1, b1⟩ := k S.heap q ce f1' f2' ⟨Nat.le_trans hS.1 f1', fun q h1 h2 => (f2' q (Nat.lt_of_lt_of_le h1 hS.1)).trans (hS.2.1 q h1 h2), hS.2.2⟩ hce hv hcl' S rfl X6
  exact ⟨t, st t a1, b1⟩
variable {Q : State → Prop} {cc : ByteArray} {pc : Nat} {ls : Array Slot} {rest : List Value}
theorem vx_idivZ (hexec : p.tables.exec = Jvm.exec) (hb : c.code = cc) {a b : Int32} (h0 : b = 0) (d : decode cc pc = .ok (.idiv, 1)) (k : vx_Note p l e R s m args below meth c H locs cells slots Q (F0 m pc ls rest) "java/lang/ArithmeticException" "/ by zero") :
    W p l e R s m args below meth c H locs cells slots Q (F0 m pc ls (.int b :: .int a :: rest)) := by
  intro T hT X
  obtain ⟨t, st, q⟩ := k T hT X
  exact ⟨t, X.idivZero hexec (g := F0 m pc ls (.int b :: .int a :: rest)) rfl (a := a) (rest := rest) (by rw [h0]) (by rw [hb]; exact d) t st, q⟩
theorem vx_iremZ (hexec : p.tables.exec = Jvm.exec) (hb : c.code = cc) {a b : Int32} (h0 : b = 0) (d : decode cc pc = .ok (.irem, 1)) (k : vx_Note p l e R s m args below meth c H locs cells slots Q (F0 m pc ls rest) "java/lang/ArithmeticException" "/ by zero") :
    W p l e R s m args below meth c H locs cells slots Q (F0 m pc ls (.int b :: .int a :: rest)) := by
  intro T hT X
  obtain ⟨t, st, q⟩ := k T hT X
  exact ⟨t, X.iremZero hexec (g := F0 m pc ls (.int b :: .int a :: rest)) rfl (a := a) (rest := rest) (by rw [h0]) (by rw [hb]; exact d) t st, q⟩
theorem vx_ldivZ (hexec : p.tables.exec = Jvm.exec) (hb : c.code = cc) {a b : Int64} (h0 : b = 0) (d : decode cc pc = .ok (.ldiv, 1)) (k : vx_Note p l e R s m args below meth c H locs cells slots Q (F0 m pc ls rest) "java/lang/ArithmeticException" "/ by zero") :
    W p l e R s m args below meth c H locs cells slots Q (F0 m pc ls (.long b :: .long a :: rest)) := by
  intro T hT X
  obtain ⟨t, st, q⟩ := k T hT X
  exact ⟨t, X.ldivZero hexec (g := F0 m pc ls (.long b :: .long a :: rest)) rfl (a := a) (rest := rest) (by rw [h0]) (by rw [hb]; exact d) t st, q⟩
theorem vx_lremZ (hexec : p.tables.exec = Jvm.exec) (hb : c.code = cc) {a b : Int64} (h0 : b = 0) (d : decode cc pc = .ok (.lrem, 1)) (k : vx_Note p l e R s m args below meth c H locs cells slots Q (F0 m pc ls rest) "java/lang/ArithmeticException" "/ by zero") :
    W p l e R s m args below meth c H locs cells slots Q (F0 m pc ls (.long b :: .long a :: rest)) := by
  intro T hT X
  obtain ⟨t, st, q⟩ := k T hT X
  exact ⟨t, X.lremZero hexec (g := F0 m pc ls (.long b :: .long a :: rest)) rfl (a := a) (rest := rest) (by rw [h0]) (by rw [hb]; exact d) t st, q⟩
theorem vx_ialdZ {D : va_G} {cl : List vw_C} {ws : va_W} {tys : List (ClassId × FieldType)} {a : Nat} (hexec : p.tables.exec = Jvm.exec) (hb : c.code = cc) (hK : va_K D cl tys s) (hP : va_P D cl ws H) (q0 t0 : Nat) {cA : ClassId} {n : Nat} {f : Nat → Int32} (ha : ws[q0]? = some (a, .inl (cA, n, .inl f))) (ht : tys[t0]? = some (cA, .int)) {i : Int32} (hout : ¬ vp_in i n) (hdg : decode cc pc = .ok (.iaload, 1))
    (k : ∀ tx : String, tx = (toString "Index " ++ toString i ++ toString " out of bounds for length " ++ toString n : String) → vx_Note p l e R s m args below meth c H locs cells slots Q (F0 m pc ls rest) "java/lang/ArrayIndexOutOfBoundsException" tx) : W p l e R s m args below meth c H locs cells slots Q (F0 m pc ls (.int i :: .ref a :: rest)) := by
  intro T hT X
  obtain ⟨t, st, q⟩ := k _ rfl T hT X
  refine ⟨t, ?_, q⟩
  have h1 := X.ialoadOut hexec (by rw [hT]; exact hP q0 _ ha) ((hK.2 t0 _ ht).1 n (fun j => .int (f j))) (j := i) (by show (i < 0 ∨ (arrV _ _ _).slots.size ≤ _); rw [arrV_size]; exact Classical.byContradiction hout) (g := F0 m pc ls (.int i :: .ref a :: rest)) rfl (rest := rest) rfl (by rw [hb]; exact hdg) t
  simp only [arrV_size] at h1
  exact h1 st
theorem vx_iastZ {D : va_G} {cl : List vw_C} {ws : va_W} {tys : List (ClassId × FieldType)} {a : Nat} (hexec : p.tables.exec = Jvm.exec) (hb : c.code = cc) (hK : va_K D cl tys s) (hP : va_P D cl ws H) (q0 t0 : Nat) {cA : ClassId} {n : Nat} {f : Nat → Int32} (ha : ws[q0]? = some (a, .inl (cA, n, .inl f))) (ht : tys[t0]? = some (cA, .int)) {i : Int32} {x : Int32} (hout : ¬ vp_in i n) (hdg : decode cc pc = .ok (.iastore, 1))
    (k : ∀ tx : String, tx = (toString "Index " ++ toString i ++ toString " out of bounds for length " ++ toString n : String) → vx_Note p l e R s m args below meth c H locs cells slots Q (F0 m pc ls rest) "java/lang/ArrayIndexOutOfBoundsException" tx) : W p l e R s m args below meth c H locs cells slots Q (F0 m pc ls (.int x :: .int i :: .ref a :: rest)) := by
  intro T hT X
  obtain ⟨t, st, q⟩ := k _ rfl T hT X
  refine ⟨t, ?_, q⟩
  have h1 := X.iastoreOut hexec (by rw [hT]; exact hP q0 _ ha) ((hK.2 t0 _ ht).1 n (fun j => .int (f j))) (j := i) (by show (i < 0 ∨ (arrV _ _ _).slots.size ≤ _); rw [arrV_size]; exact Classical.byContradiction hout) (g := F0 m pc ls (.int x :: .int i :: .ref a :: rest)) rfl (rest := rest) rfl (by rw [hb]; exact hdg) t
  simp only [arrV_size] at h1
  exact h1 st
theorem vx_baldZ {D : va_G} {cl : List vw_C} {ws : va_W} {tys : List (ClassId × FieldType)} {a : Nat} (hexec : p.tables.exec = Jvm.exec) (hb : c.code = cc) (hK : va_K D cl tys s) (hP : va_P D cl ws H) (q0 t0 : Nat) {cA : ClassId} {n : Nat} {f : Nat → Int32} (ha : ws[q0]? = some (a, .inl (cA, n, .inl f))) (ht : tys[t0]? = some (cA, .byte)) {i : Int32} (hout : ¬ vp_in i n) (hdg : decode cc pc = .ok (.baload, 1))
    (k : ∀ tx : String, tx = (toString "Index " ++ toString i ++ toString " out of bounds for length " ++ toString n : String) → vx_Note p l e R s m args below meth c H locs cells slots Q (F0 m pc ls rest) "java/lang/ArrayIndexOutOfBoundsException" tx) : W p l e R s m args below meth c H locs cells slots Q (F0 m pc ls (.int i :: .ref a :: rest)) := by
  intro T hT X
  obtain ⟨t, st, q⟩ := k _ rfl T hT X
  refine ⟨t, ?_, q⟩
  have h1 := X.baloadOut hexec (by rw [hT]; exact hP q0 _ ha) ((hK.2 t0 _ ht).1 n (fun j => .int (f j))) (j := i) (by show (i < 0 ∨ (arrV _ _ _).slots.size ≤ _); rw [arrV_size]; exact Classical.byContradiction hout) (g := F0 m pc ls (.int i :: .ref a :: rest)) rfl (rest := rest) rfl (by rw [hb]; exact hdg) t
  simp only [arrV_size] at h1
  exact h1 st
theorem vx_bastZ {D : va_G} {cl : List vw_C} {ws : va_W} {tys : List (ClassId × FieldType)} {a : Nat} (hexec : p.tables.exec = Jvm.exec) (hb : c.code = cc) (hK : va_K D cl tys s) (hP : va_P D cl ws H) (q0 t0 : Nat) {cA : ClassId} {n : Nat} {f : Nat → Int32} (ha : ws[q0]? = some (a, .inl (cA, n, .inl f))) (ht : tys[t0]? = some (cA, .byte)) {i : Int32} {x : Int32} (hout : ¬ vp_in i n) (hdg : decode cc pc = .ok (.bastore, 1))
    (k : ∀ tx : String, tx = (toString "Index " ++ toString i ++ toString " out of bounds for length " ++ toString n : String) → vx_Note p l e R s m args below meth c H locs cells slots Q (F0 m pc ls rest) "java/lang/ArrayIndexOutOfBoundsException" tx) : W p l e R s m args below meth c H locs cells slots Q (F0 m pc ls (.int x :: .int i :: .ref a :: rest)) := by
  intro T hT X
  obtain ⟨t, st, q⟩ := k _ rfl T hT X
  refine ⟨t, ?_, q⟩
  have h1 := X.bastoreOut hexec (by rw [hT]; exact hP q0 _ ha) ((hK.2 t0 _ ht).1 n (fun j => .int (f j))) (j := i) (by show (i < 0 ∨ (arrV _ _ _).slots.size ≤ _); rw [arrV_size]; exact Classical.byContradiction hout) (g := F0 m pc ls (.int x :: .int i :: .ref a :: rest)) rfl (rest := rest) rfl (by rw [hb]; exact hdg) t
  simp only [arrV_size] at h1
  exact h1 st
theorem vx_zaldZ {D : va_G} {cl : List vw_C} {ws : va_W} {tys : List (ClassId × FieldType)} {a : Nat} (hexec : p.tables.exec = Jvm.exec) (hb : c.code = cc) (hK : va_K D cl tys s) (hP : va_P D cl ws H) (q0 t0 : Nat) {cA : ClassId} {n : Nat} {f : Nat → Int32} (ha : ws[q0]? = some (a, .inl (cA, n, .inl f))) (ht : tys[t0]? = some (cA, .boolean)) {i : Int32} (hout : ¬ vp_in i n) (hdg : decode cc pc = .ok (.baload, 1))
    (k : ∀ tx : String, tx = (toString "Index " ++ toString i ++ toString " out of bounds for length " ++ toString n : String) → vx_Note p l e R s m args below meth c H locs cells slots Q (F0 m pc ls rest) "java/lang/ArrayIndexOutOfBoundsException" tx) : W p l e R s m args below meth c H locs cells slots Q (F0 m pc ls (.int i :: .ref a :: rest)) := by
  intro T hT X
  obtain ⟨t, st, q⟩ := k _ rfl T hT X
  refine ⟨t, ?_, q⟩
  have h1 := X.baloadOut hexec (by rw [hT]; exact hP q0 _ ha) ((hK.2 t0 _ ht).1 n (fun j => .int (f j))) (j := i) (by show (i < 0 ∨ (arrV _ _ _).slots.size ≤ _); rw [arrV_size]; exact Classical.byContradiction hout) (g := F0 m pc ls (.int i :: .ref a :: rest)) rfl (rest := rest) rfl (by rw [hb]; exact hdg) t
  simp only [arrV_size] at h1
  exact h1 st
theorem vx_zastZ {D : va_G} {cl : List vw_C} {ws : va_W} {tys : List (ClassId × FieldType)} {a : Nat} (hexec : p.tables.exec = Jvm.exec) (hb : c.code = cc) (hK : va_K D cl tys s) (hP : va_P D cl ws H) (q0 t0 : Nat) {cA : ClassId} {n : Nat} {f : Nat → Int32} (ha : ws[q0]? = some (a, .inl (cA, n, .inl f))) (ht : tys[t0]? = some (cA, .boolean)) {i : Int32} {x : Int32} (hout : ¬ vp_in i n) (hdg : decode cc pc = .ok (.bastore, 1))
    (k : ∀ tx : String, tx = (toString "Index " ++ toString i ++ toString " out of bounds for length " ++ toString n : String) → vx_Note p l e R s m args below meth c H locs cells slots Q (F0 m pc ls rest) "java/lang/ArrayIndexOutOfBoundsException" tx) : W p l e R s m args below meth c H locs cells slots Q (F0 m pc ls (.int x :: .int i :: .ref a :: rest)) := by
  intro T hT X
  obtain ⟨t, st, q⟩ := k _ rfl T hT X
  refine ⟨t, ?_, q⟩
  have h1 := X.bastoreOut hexec (by rw [hT]; exact hP q0 _ ha) ((hK.2 t0 _ ht).1 n (fun j => .int (f j))) (j := i) (by show (i < 0 ∨ (arrV _ _ _).slots.size ≤ _); rw [arrV_size]; exact Classical.byContradiction hout) (g := F0 m pc ls (.int x :: .int i :: .ref a :: rest)) rfl (rest := rest) rfl (by rw [hb]; exact hdg) t
  simp only [arrV_size] at h1
  exact h1 st
theorem vx_caldZ {D : va_G} {cl : List vw_C} {ws : va_W} {tys : List (ClassId × FieldType)} {a : Nat} (hexec : p.tables.exec = Jvm.exec) (hb : c.code = cc) (hK : va_K D cl tys s) (hP : va_P D cl ws H) (q0 t0 : Nat) {cA : ClassId} {n : Nat} {f : Nat → Int32} (ha : ws[q0]? = some (a, .inl (cA, n, .inl f))) (ht : tys[t0]? = some (cA, .char)) {i : Int32} (hout : ¬ vp_in i n) (hdg : decode cc pc = .ok (.caload, 1))
    (k : ∀ tx : String, tx = (toString "Index " ++ toString i ++ toString " out of bounds for length " ++ toString n : String) → vx_Note p l e R s m args below meth c H locs cells slots Q (F0 m pc ls rest) "java/lang/ArrayIndexOutOfBoundsException" tx) : W p l e R s m args below meth c H locs cells slots Q (F0 m pc ls (.int i :: .ref a :: rest)) := by
  intro T hT X
  obtain ⟨t, st, q⟩ := k _ rfl T hT X
  refine ⟨t, ?_, q⟩
  have h1 := X.caloadOut hexec (by rw [hT]; exact hP q0 _ ha) ((hK.2 t0 _ ht).1 n (fun j => .int (f j))) (j := i) (by show (i < 0 ∨ (arrV _ _ _).slots.size ≤ _); rw [arrV_size]; exact Classical.byContradiction hout) (g := F0 m pc ls (.int i :: .ref a :: rest)) rfl (rest := rest) rfl (by rw [hb]; exact hdg) t
  simp only [arrV_size] at h1
  exact h1 st
theorem vx_castZ {D : va_G} {cl : List vw_C} {ws : va_W} {tys : List (ClassId × FieldType)} {a : Nat} (hexec : p.tables.exec = Jvm.exec) (hb : c.code = cc) (hK : va_K D cl tys s) (hP : va_P D cl ws H) (q0 t0 : Nat) {cA : ClassId} {n : Nat} {f : Nat → Int32} (ha : ws[q0]? = some (a, .inl (cA, n, .inl f))) (ht : tys[t0]? = some (cA, .char)) {i : Int32} {x : Int32} (hout : ¬ vp_in i n) (hdg : decode cc pc = .ok (.castore, 1))
    (k : ∀ tx : String, tx = (toString "Index " ++ toString i ++ toString " out of bounds for length " ++ toString n : String) → vx_Note p l e R s m args below meth c H locs cells slots Q (F0 m pc ls rest) "java/lang/ArrayIndexOutOfBoundsException" tx) : W p l e R s m args below meth c H locs cells slots Q (F0 m pc ls (.int x :: .int i :: .ref a :: rest)) := by
  intro T hT X
  obtain ⟨t, st, q⟩ := k _ rfl T hT X
  refine ⟨t, ?_, q⟩
  have h1 := X.castoreOut hexec (by rw [hT]; exact hP q0 _ ha) ((hK.2 t0 _ ht).1 n (fun j => .int (f j))) (j := i) (by show (i < 0 ∨ (arrV _ _ _).slots.size ≤ _); rw [arrV_size]; exact Classical.byContradiction hout) (g := F0 m pc ls (.int x :: .int i :: .ref a :: rest)) rfl (rest := rest) rfl (by rw [hb]; exact hdg) t
  simp only [arrV_size] at h1
  exact h1 st
theorem vx_saldZ {D : va_G} {cl : List vw_C} {ws : va_W} {tys : List (ClassId × FieldType)} {a : Nat} (hexec : p.tables.exec = Jvm.exec) (hb : c.code = cc) (hK : va_K D cl tys s) (hP : va_P D cl ws H) (q0 t0 : Nat) {cA : ClassId} {n : Nat} {f : Nat → Int32} (ha : ws[q0]? = some (a, .inl (cA, n, .inl f))) (ht : tys[t0]? = some (cA, .short)) {i : Int32} (hout : ¬ vp_in i n) (hdg : decode cc pc = .ok (.saload, 1))
    (k : ∀ tx : String, tx = (toString "Index " ++ toString i ++ toString " out of bounds for length " ++ toString n : String) → vx_Note p l e R s m args below meth c H locs cells slots Q (F0 m pc ls rest) "java/lang/ArrayIndexOutOfBoundsException" tx) : W p l e R s m args below meth c H locs cells slots Q (F0 m pc ls (.int i :: .ref a :: rest)) := by
  intro T hT X
  obtain ⟨t, st, q⟩ := k _ rfl T hT X
  refine ⟨t, ?_, q⟩
  have h1 := X.saloadOut hexec (by rw [hT]; exact hP q0 _ ha) ((hK.2 t0 _ ht).1 n (fun j => .int (f j))) (j := i) (by show (i < 0 ∨ (arrV _ _ _).slots.size ≤ _); rw [arrV_size]; exact Classical.byContradiction hout) (g := F0 m pc ls (.int i :: .ref a :: rest)) rfl (rest := rest) rfl (by rw [hb]; exact hdg) t
  simp only [arrV_size] at h1
  exact h1 st
theorem vx_sastZ {D : va_G} {cl : List vw_C} {ws : va_W} {tys : List (ClassId × FieldType)} {a : Nat} (hexec : p.tables.exec = Jvm.exec) (hb : c.code = cc) (hK : va_K D cl tys s) (hP : va_P D cl ws H) (q0 t0 : Nat) {cA : ClassId} {n : Nat} {f : Nat → Int32} (ha : ws[q0]? = some (a, .inl (cA, n, .inl f))) (ht : tys[t0]? = some (cA, .short)) {i : Int32} {x : Int32} (hout : ¬ vp_in i n) (hdg : decode cc pc = .ok (.sastore, 1))
    (k : ∀ tx : String, tx = (toString "Index " ++ toString i ++ toString " out of bounds for length " ++ toString n : String) → vx_Note p l e R s m args below meth c H locs cells slots Q (F0 m pc ls rest) "java/lang/ArrayIndexOutOfBoundsException" tx) : W p l e R s m args below meth c H locs cells slots Q (F0 m pc ls (.int x :: .int i :: .ref a :: rest)) := by
  intro T hT X
  obtain ⟨t, st, q⟩ := k _ rfl T hT X
  refine ⟨t, ?_, q⟩
  have h1 := X.sastoreOut hexec (by rw [hT]; exact hP q0 _ ha) ((hK.2 t0 _ ht).1 n (fun j => .int (f j))) (j := i) (by show (i < 0 ∨ (arrV _ _ _).slots.size ≤ _); rw [arrV_size]; exact Classical.byContradiction hout) (g := F0 m pc ls (.int x :: .int i :: .ref a :: rest)) rfl (rest := rest) rfl (by rw [hb]; exact hdg) t
  simp only [arrV_size] at h1
  exact h1 st
theorem vx_laldZ {D : va_G} {cl : List vw_C} {ws : va_W} {tys : List (ClassId × FieldType)} {a : Nat} (hexec : p.tables.exec = Jvm.exec) (hb : c.code = cc) (hK : va_K D cl tys s) (hP : va_P D cl ws H) (q0 t0 : Nat) {cA : ClassId} {n : Nat} {f : Nat → Int64} (ha : ws[q0]? = some (a, .inl (cA, n, .inr (.inl f)))) (ht : tys[t0]? = some (cA, .long)) {i : Int32} (hout : ¬ vp_in i n) (hdg : decode cc pc = .ok (.laload, 1))
    (k : ∀ tx : String, tx = (toString "Index " ++ toString i ++ toString " out of bounds for length " ++ toString n : String) → vx_Note p l e R s m args below meth c H locs cells slots Q (F0 m pc ls rest) "java/lang/ArrayIndexOutOfBoundsException" tx) : W p l e R s m args below meth c H locs cells slots Q (F0 m pc ls (.int i :: .ref a :: rest)) := by
  intro T hT X
  obtain ⟨t, st, q⟩ := k _ rfl T hT X
  refine ⟨t, ?_, q⟩
  have h1 := X.laloadOut hexec (by rw [hT]; exact hP q0 _ ha) ((hK.2 t0 _ ht).1 n (fun j => .long (f j))) (j := i) (by show (i < 0 ∨ (arrV _ _ _).slots.size ≤ _); rw [arrV_size]; exact Classical.byContradiction hout) (g := F0 m pc ls (.int i :: .ref a :: rest)) rfl (rest := rest) rfl (by rw [hb]; exact hdg) t
  simp only [arrV_size] at h1
  exact h1 st
theorem vx_lastZ {D : va_G} {cl : List vw_C} {ws : va_W} {tys : List (ClassId × FieldType)} {a : Nat} (hexec : p.tables.exec = Jvm.exec) (hb : c.code = cc) (hK : va_K D cl tys s) (hP : va_P D cl ws H) (q0 t0 : Nat) {cA : ClassId} {n : Nat} {f : Nat → Int64} (ha : ws[q0]? = some (a, .inl (cA, n, .inr (.inl f)))) (ht : tys[t0]? = some (cA, .long)) {i : Int32} {x : Int64} (hout : ¬ vp_in i n) (hdg : decode cc pc = .ok (.lastore, 1))
    (k : ∀ tx : String, tx = (toString "Index " ++ toString i ++ toString " out of bounds for length " ++ toString n : String) → vx_Note p l e R s m args below meth c H locs cells slots Q (F0 m pc ls rest) "java/lang/ArrayIndexOutOfBoundsException" tx) : W p l e R s m args below meth c H locs cells slots Q (F0 m pc ls (.long x :: .int i :: .ref a :: rest)) := by
  intro T hT X
  obtain ⟨t, st, q⟩ := k _ rfl T hT X
  refine ⟨t, ?_, q⟩
  have h1 := X.lastoreOut hexec (by rw [hT]; exact hP q0 _ ha) ((hK.2 t0 _ ht).1 n (fun j => .long (f j))) (j := i) (by show (i < 0 ∨ (arrV _ _ _).slots.size ≤ _); rw [arrV_size]; exact Classical.byContradiction hout) (g := F0 m pc ls (.long x :: .int i :: .ref a :: rest)) rfl (rest := rest) rfl (by rw [hb]; exact hdg) t
  simp only [arrV_size] at h1
  exact h1 st
theorem vx_faldZ {D : va_G} {cl : List vw_C} {ws : va_W} {tys : List (ClassId × FieldType)} {a : Nat} (hexec : p.tables.exec = Jvm.exec) (hb : c.code = cc) (hK : va_K D cl tys s) (hP : va_P D cl ws H) (q0 t0 : Nat) {cA : ClassId} {n : Nat} {f : Nat → UInt32} (ha : ws[q0]? = some (a, .inl (cA, n, .inr (.inr (.inl f))))) (ht : tys[t0]? = some (cA, .float)) {i : Int32} (hout : ¬ vp_in i n) (hdg : decode cc pc = .ok (.faload, 1))
    (k : ∀ tx : String, tx = (toString "Index " ++ toString i ++ toString " out of bounds for length " ++ toString n : String) → vx_Note p l e R s m args below meth c H locs cells slots Q (F0 m pc ls rest) "java/lang/ArrayIndexOutOfBoundsException" tx) : W p l e R s m args below meth c H locs cells slots Q (F0 m pc ls (.int i :: .ref a :: rest)) := by
  intro T hT X
  obtain ⟨t, st, q⟩ := k _ rfl T hT X
  refine ⟨t, ?_, q⟩
  have h1 := X.faloadOut hexec (by rw [hT]; exact hP q0 _ ha) ((hK.2 t0 _ ht).1 n (fun j => .float (f j))) (j := i) (by show (i < 0 ∨ (arrV _ _ _).slots.size ≤ _); rw [arrV_size]; exact Classical.byContradiction hout) (g := F0 m pc ls (.int i :: .ref a :: rest)) rfl (rest := rest) rfl (by rw [hb]; exact hdg) t
  simp only [arrV_size] at h1
  exact h1 st
theorem vx_fastZ {D : va_G} {cl : List vw_C} {ws : va_W} {tys : List (ClassId × FieldType)} {a : Nat} (hexec : p.tables.exec = Jvm.exec) (hb : c.code = cc) (hK : va_K D cl tys s) (hP : va_P D cl ws H) (q0 t0 : Nat) {cA : ClassId} {n : Nat} {f : Nat → UInt32} (ha : ws[q0]? = some (a, .inl (cA, n, .inr (.inr (.inl f))))) (ht : tys[t0]? = some (cA, .float)) {i : Int32} {x : UInt32} (hout : ¬ vp_in i n) (hdg : decode cc pc = .ok (.fastore, 1))
    (k : ∀ tx : String, tx = (toString "Index " ++ toString i ++ toString " out of bounds for length " ++ toString n : String) → vx_Note p l e R s m args below meth c H locs cells slots Q (F0 m pc ls rest) "java/lang/ArrayIndexOutOfBoundsException" tx) : W p l e R s m args below meth c H locs cells slots Q (F0 m pc ls (.float x :: .int i :: .ref a :: rest)) := by
  intro T hT X
  obtain ⟨t, st, q⟩ := k _ rfl T hT X
  refine ⟨t, ?_, q⟩
  have h1 := X.fastoreOut hexec (by rw [hT]; exact hP q0 _ ha) ((hK.2 t0 _ ht).1 n (fun j => .float (f j))) (j := i) (by show (i < 0 ∨ (arrV _ _ _).slots.size ≤ _); rw [arrV_size]; exact Classical.byContradiction hout) (g := F0 m pc ls (.float x :: .int i :: .ref a :: rest)) rfl (rest := rest) rfl (by rw [hb]; exact hdg) t
  simp only [arrV_size] at h1
  exact h1 st
theorem vx_daldZ {D : va_G} {cl : List vw_C} {ws : va_W} {tys : List (ClassId × FieldType)} {a : Nat} (hexec : p.tables.exec = Jvm.exec) (hb : c.code = cc) (hK : va_K D cl tys s) (hP : va_P D cl ws H) (q0 t0 : Nat) {cA : ClassId} {n : Nat} {f : Nat → UInt64} (ha : ws[q0]? = some (a, .inl (cA, n, .inr (.inr (.inr (.inl f)))))) (ht : tys[t0]? = some (cA, .double)) {i : Int32} (hout : ¬ vp_in i n) (hdg : decode cc pc = .ok (.daload, 1))
    (k : ∀ tx : String, tx = (toString "Index " ++ toString i ++ toString " out of bounds for length " ++ toString n : String) → vx_Note p l e R s m args below meth c H locs cells slots Q (F0 m pc ls rest) "java/lang/ArrayIndexOutOfBoundsException" tx) : W p l e R s m args below meth c H locs cells slots Q (F0 m pc ls (.int i :: .ref a :: rest)) := by
  intro T hT X
  obtain ⟨t, st, q⟩ := k _ rfl T hT X
  refine ⟨t, ?_, q⟩
  have h1 := X.daloadOut hexec (by rw [hT]; exact hP q0 _ ha) ((hK.2 t0 _ ht).1 n (fun j => .double (f j))) (j := i) (by show (i < 0 ∨ (arrV _ _ _).slots.size ≤ _); rw [arrV_size]; exact Classical.byContradiction hout) (g := F0 m pc ls (.int i :: .ref a :: rest)) rfl (rest := rest) rfl (by rw [hb]; exact hdg) t
  simp only [arrV_size] at h1
  exact h1 st
theorem vx_dastZ {D : va_G} {cl : List vw_C} {ws : va_W} {tys : List (ClassId × FieldType)} {a : Nat} (hexec : p.tables.exec = Jvm.exec) (hb : c.code = cc) (hK : va_K D cl tys s) (hP : va_P D cl ws H) (q0 t0 : Nat) {cA : ClassId} {n : Nat} {f : Nat → UInt64} (ha : ws[q0]? = some (a, .inl (cA, n, .inr (.inr (.inr (.inl f)))))) (ht : tys[t0]? = some (cA, .double)) {i : Int32} {x : UInt64} (hout : ¬ vp_in i n) (hdg : decode cc pc = .ok (.dastore, 1))
    (k : ∀ tx : String, tx = (toString "Index " ++ toString i ++ toString " out of bounds for length " ++ toString n : String) → vx_Note p l e R s m args below meth c H locs cells slots Q (F0 m pc ls rest) "java/lang/ArrayIndexOutOfBoundsException" tx) : W p l e R s m args below meth c H locs cells slots Q (F0 m pc ls (.double x :: .int i :: .ref a :: rest)) := by
  intro T hT X
  obtain ⟨t, st, q⟩ := k _ rfl T hT X
  refine ⟨t, ?_, q⟩
  have h1 := X.dastoreOut hexec (by rw [hT]; exact hP q0 _ ha) ((hK.2 t0 _ ht).1 n (fun j => .double (f j))) (j := i) (by show (i < 0 ∨ (arrV _ _ _).slots.size ≤ _); rw [arrV_size]; exact Classical.byContradiction hout) (g := F0 m pc ls (.double x :: .int i :: .ref a :: rest)) rfl (rest := rest) rfl (by rw [hb]; exact hdg) t
  simp only [arrV_size] at h1
  exact h1 st
theorem vx_arraylengthN (hexec : p.tables.exec = Jvm.exec) (hb : c.code = cc) (hdg : decode cc pc = .ok (.arraylength, 1)) (k : vx_NoteN p l e R s m args below meth c H locs cells slots Q (F0 m pc ls rest)) : W p l e R s m args below meth c H locs cells slots Q (F0 m pc ls (.null :: rest)) := by
  intro T hT X
  obtain ⟨t, st, q⟩ := k T hT X
  exact ⟨t, X.arraylengthNull hexec (g := F0 m pc ls (.null :: rest)) rfl (rest := rest) rfl (by rw [hb]; exact hdg) t st, q⟩
theorem vx_ialoadN (hexec : p.tables.exec = Jvm.exec) (hb : c.code = cc) {i : Int32} (hdg : decode cc pc = .ok (.iaload, 1)) (k : vx_NoteN p l e R s m args below meth c H locs cells slots Q (F0 m pc ls rest)) : W p l e R s m args below meth c H locs cells slots Q (F0 m pc ls (.int i :: .null :: rest)) := by
  intro T hT X
  obtain ⟨t, st, q⟩ := k T hT X
  exact ⟨t, X.ialoadNull hexec (g := F0 m pc ls (.int i :: .null :: rest)) rfl (rest := rest) rfl (by rw [hb]; exact hdg) t st, q⟩
theorem vx_laloadN (hexec : p.tables.exec = Jvm.exec) (hb : c.code = cc) {i : Int32} (hdg : decode cc pc = .ok (.laload, 1)) (k : vx_NoteN p l e R s m args below meth c H locs cells slots Q (F0 m pc ls rest)) : W p l e R s m args below meth c H locs cells slots Q (F0 m pc ls (.int i :: .null :: rest)) := by
  intro T hT X
  obtain ⟨t, st, q⟩ := k T hT X
  exact ⟨t, X.laloadNull hexec (g := F0 m pc ls (.int i :: .null :: rest)) rfl (rest := rest) rfl (by rw [hb]; exact hdg) t st, q⟩
theorem vx_faloadN (hexec : p.tables.exec = Jvm.exec) (hb : c.code = cc) {i : Int32} (hdg : decode cc pc = .ok (.faload, 1)) (k : vx_NoteN p l e R s m args below meth c H locs cells slots Q (F0 m pc ls rest)) : W p l e R s m args below meth c H locs cells slots Q (F0 m pc ls (.int i :: .null :: rest)) := by
  intro T hT X
  obtain ⟨t, st, q⟩ := k T hT X
  exact ⟨t, X.faloadNull hexec (g := F0 m pc ls (.int i :: .null :: rest)) rfl (rest := rest) rfl (by rw [hb]; exact hdg) t st, q⟩
theorem vx_daloadN (hexec : p.tables.exec = Jvm.exec) (hb : c.code = cc) {i : Int32} (hdg : decode cc pc = .ok (.daload, 1)) (k : vx_NoteN p l e R s m args below meth c H locs cells slots Q (F0 m pc ls rest)) : W p l e R s m args below meth c H locs cells slots Q (F0 m pc ls (.int i :: .null :: rest)) := by
  intro T hT X
  obtain ⟨t, st, q⟩ := k T hT X
  exact ⟨t, X.daloadNull hexec (g := F0 m pc ls (.int i :: .null :: rest)) rfl (rest := rest) rfl (by rw [hb]; exact hdg) t st, q⟩
theorem vx_aaloadN (hexec : p.tables.exec = Jvm.exec) (hb : c.code = cc) {i : Int32} (hdg : decode cc pc = .ok (.aaload, 1)) (k : vx_NoteN p l e R s m args below meth c H locs cells slots Q (F0 m pc ls rest)) : W p l e R s m args below meth c H locs cells slots Q (F0 m pc ls (.int i :: .null :: rest)) := by
  intro T hT X
  obtain ⟨t, st, q⟩ := k T hT X
  exact ⟨t, X.aaloadNull hexec (g := F0 m pc ls (.int i :: .null :: rest)) rfl (rest := rest) rfl (by rw [hb]; exact hdg) t st, q⟩
theorem vx_baloadN (hexec : p.tables.exec = Jvm.exec) (hb : c.code = cc) {i : Int32} (hdg : decode cc pc = .ok (.baload, 1)) (k : vx_NoteN p l e R s m args below meth c H locs cells slots Q (F0 m pc ls rest)) : W p l e R s m args below meth c H locs cells slots Q (F0 m pc ls (.int i :: .null :: rest)) := by
  intro T hT X
  obtain ⟨t, st, q⟩ := k T hT X
  exact ⟨t, X.baloadNull hexec (g := F0 m pc ls (.int i :: .null :: rest)) rfl (rest := rest) rfl (by rw [hb]; exact hdg) t st, q⟩
theorem vx_caloadN (hexec : p.tables.exec = Jvm.exec) (hb : c.code = cc) {i : Int32} (hdg : decode cc pc = .ok (.caload, 1)) (k : vx_NoteN p l e R s m args below meth c H locs cells slots Q (F0 m pc ls rest)) : W p l e R s m args below meth c H locs cells slots Q (F0 m pc ls (.int i :: .null :: rest)) := by
  intro T hT X
  obtain ⟨t, st, q⟩ := k T hT X
  exact ⟨t, X.caloadNull hexec (g := F0 m pc ls (.int i :: .null :: rest)) rfl (rest := rest) rfl (by rw [hb]; exact hdg) t st, q⟩
theorem vx_saloadN (hexec : p.tables.exec = Jvm.exec) (hb : c.code = cc) {i : Int32} (hdg : decode cc pc = .ok (.saload, 1)) (k : vx_NoteN p l e R s m args below meth c H locs cells slots Q (F0 m pc ls rest)) : W p l e R s m args below meth c H locs cells slots Q (F0 m pc ls (.int i :: .null :: rest)) := by
  intro T hT X
  obtain ⟨t, st, q⟩ := k T hT X
  exact ⟨t, X.saloadNull hexec (g := F0 m pc ls (.int i :: .null :: rest)) rfl (rest := rest) rfl (by rw [hb]; exact hdg) t st, q⟩
theorem vx_iastoreN (hexec : p.tables.exec = Jvm.exec) (hb : c.code = cc) {x : Int32} {i : Int32} (hdg : decode cc pc = .ok (.iastore, 1)) (k : vx_NoteN p l e R s m args below meth c H locs cells slots Q (F0 m pc ls rest)) : W p l e R s m args below meth c H locs cells slots Q (F0 m pc ls (.int x :: .int i :: .null :: rest)) := by
  intro T hT X
  obtain ⟨t, st, q⟩ := k T hT X
  exact ⟨t, X.iastoreNull hexec (g := F0 m pc ls (.int x :: .int i :: .null :: rest)) rfl (rest := rest) rfl (by rw [hb]; exact hdg) t st, q⟩
theorem vx_lastoreN (hexec : p.tables.exec = Jvm.exec) (hb : c.code = cc) {x : Int64} {i : Int32} (hdg : decode cc pc = .ok (.lastore, 1)) (k : vx_NoteN p l e R s m args below meth c H locs cells slots Q (F0 m pc ls rest)) : W p l e R s m args below meth c H locs cells slots Q (F0 m pc ls (.long x :: .int i :: .null :: rest)) := by
  intro T hT X
  obtain ⟨t, st, q⟩ := k T hT X
  exact ⟨t, X.lastoreNull hexec (g := F0 m pc ls (.long x :: .int i :: .null :: rest)) rfl (rest := rest) rfl (by rw [hb]; exact hdg) t st, q⟩
theorem vx_fastoreN (hexec : p.tables.exec = Jvm.exec) (hb : c.code = cc) {x : UInt32} {i : Int32} (hdg : decode cc pc = .ok (.fastore, 1)) (k : vx_NoteN p l e R s m args below meth c H locs cells slots Q (F0 m pc ls rest)) : W p l e R s m args below meth c H locs cells slots Q (F0 m pc ls (.float x :: .int i :: .null :: rest)) := by
  intro T hT X
  obtain ⟨t, st, q⟩ := k T hT X
  exact ⟨t, X.fastoreNull hexec (g := F0 m pc ls (.float x :: .int i :: .null :: rest)) rfl (rest := rest) rfl (by rw [hb]; exact hdg) t st, q⟩
theorem vx_dastoreN (hexec : p.tables.exec = Jvm.exec) (hb : c.code = cc) {x : UInt64} {i : Int32} (hdg : decode cc pc = .ok (.dastore, 1)) (k : vx_NoteN p l e R s m args below meth c H locs cells slots Q (F0 m pc ls rest)) : W p l e R s m args below meth c H locs cells slots Q (F0 m pc ls (.double x :: .int i :: .null :: rest)) := by
  intro T hT X
  obtain ⟨t, st, q⟩ := k T hT X
  exact ⟨t, X.dastoreNull hexec (g := F0 m pc ls (.double x :: .int i :: .null :: rest)) rfl (rest := rest) rfl (by rw [hb]; exact hdg) t st, q⟩
theorem vx_bastoreN (hexec : p.tables.exec = Jvm.exec) (hb : c.code = cc) {x : Int32} {i : Int32} (hdg : decode cc pc = .ok (.bastore, 1)) (k : vx_NoteN p l e R s m args below meth c H locs cells slots Q (F0 m pc ls rest)) : W p l e R s m args below meth c H locs cells slots Q (F0 m pc ls (.int x :: .int i :: .null :: rest)) := by
  intro T hT X
  obtain ⟨t, st, q⟩ := k T hT X
  exact ⟨t, X.bastoreNull hexec (g := F0 m pc ls (.int x :: .int i :: .null :: rest)) rfl (rest := rest) rfl (by rw [hb]; exact hdg) t st, q⟩
theorem vx_castoreN (hexec : p.tables.exec = Jvm.exec) (hb : c.code = cc) {x : Int32} {i : Int32} (hdg : decode cc pc = .ok (.castore, 1)) (k : vx_NoteN p l e R s m args below meth c H locs cells slots Q (F0 m pc ls rest)) : W p l e R s m args below meth c H locs cells slots Q (F0 m pc ls (.int x :: .int i :: .null :: rest)) := by
  intro T hT X
  obtain ⟨t, st, q⟩ := k T hT X
  exact ⟨t, X.castoreNull hexec (g := F0 m pc ls (.int x :: .int i :: .null :: rest)) rfl (rest := rest) rfl (by rw [hb]; exact hdg) t st, q⟩
theorem vx_sastoreN (hexec : p.tables.exec = Jvm.exec) (hb : c.code = cc) {x : Int32} {i : Int32} (hdg : decode cc pc = .ok (.sastore, 1)) (k : vx_NoteN p l e R s m args below meth c H locs cells slots Q (F0 m pc ls rest)) : W p l e R s m args below meth c H locs cells slots Q (F0 m pc ls (.int x :: .int i :: .null :: rest)) := by
  intro T hT X
  obtain ⟨t, st, q⟩ := k T hT X
  exact ⟨t, X.sastoreNull hexec (g := F0 m pc ls (.int x :: .int i :: .null :: rest)) rfl (rest := rest) rfl (by rw [hb]; exact hdg) t st, q⟩
theorem vx_invokeN {own C : String} {index maxL : Nat} {y : MethodName} {bytes : ByteArray} {ret : Option FieldType} (hexec : p.tables.exec = Jvm.exec) (hb : c.code = cc) (hown : s.vm.findClass own = some m.cls) (hlink : (Cond.methodLink own index y).before args s = true) (hinst : (Cond.instanceMethod y).before args s = true) (hcode : (Cond.code y bytes maxL ret).before args s = true) (hsel : (Cond.selects C y y).before args s = true)
    (hx : y.cls ≠ "java/lang/invoke/MethodHandle" ∧ y.cls ≠ "java/lang/invoke/VarHandle") {As : List Value} (hlen : (parseMethodDescriptor y.desc).map (fun d => d.parameters.length) = some As.length) (hdg : decode cc pc = .ok (.invokevirtual index, 3))
    (k : vx_NoteN p l e R s m args below meth c H locs cells slots Q (F0 m pc ls rest)) {st0 : List Value} (hst : st0 = As.reverse ++ .null :: rest) : W p l e R s m args below meth c H locs cells slots Q (F0 m pc ls st0) := by
  intro T hT X
  obtain ⟨r0, r, hn, hrm, hstR, hsigR⟩ := va_Decl.of hinst hcode
  obtain ⟨c2, r2, m2, q1, q2, q3, q4, kP, hkP, hkPi⟩ := Cond.selects_spec hsel
  cases hn.symm.trans q3
  have hl9 : As.length = r.sig.parameters.length := by
    rw [hsigR] at hlen
    exact (Option.some.inj hlen).symm
  obtain ⟨vm', X1, st1⟩ := X.invokevirtualNull hexec hown hlink hn hrm hstR hkP hkPi hx (g := F0 m pc ls st0) rfl (argsL := As) (rest := rest) hl9 hst (by rw [hb]; exact hdg)
  obtain ⟨t, st, q⟩ := k (T.setVm vm') hT X1
  exact ⟨t, st1 t st, q⟩
theorem vx_newarrayZ {atype : ArrayType} (hexec : p.tables.exec = Jvm.exec) (hb : c.code = cc) {n : Int32} (h0 : n < 0) (hdg : decode cc pc = .ok (.newarray atype, 2)) (k : ∀ tx : String, tx = toString n → vx_Note p l e R s m args below meth c H locs cells slots Q (F0 m pc ls rest) "java/lang/NegativeArraySizeException" tx) : W p l e R s m args below meth c H locs cells slots Q (F0 m pc ls (.int n :: rest)) := by
  intro T hT X
  obtain ⟨t, st, q⟩ := k _ rfl T hT X
  exact ⟨t, X.newarrayNegative hexec (g := F0 m pc ls (.int n :: rest)) rfl h0 (rest := rest) rfl (by rw [hb]; exact hdg) t st, q⟩
end
end VXM
/-! ===== END ===== -/
/-! ===== BEGIN an exception as an object: made, kept, thrown later (no traces kept) ===== -/
section VXK
variable {p : Program} {l : Launch} {e : Env} {R : Room} {s : State} {m₀ : MethodId} {args : Array Value} {below : List Frame} {meth : Method} {c : Code} {W : State} {locs : List Loc} {cells slots : Nat}
set_option maxHeartbeats 1000000 in
theorem vx_ctorMadeS (X : Stand p l e R s m₀ args below meth c W locs cells slots) (hexec : p.tables.exec = Jvm.exec) (htr : e.platform.stackTraces = false) {own cls : String} {names : List String} {ic : Nat}
    (hown : s.vm.findClass own = some m₀.cls) (hcls : Bundle.fit cls = true) (hnames : ∀ n ∈ names, Bundle.fit n = true)
    (h : ∀ a ∈ Bundle.ownAtoms own ic cls names, a.before args s = true)
    (hlocs : ∀ x ∈ locs, ∀ cell, s.heap[x.base]? = some cell → cell.vm.isStatics = false)
    {a : Addr} {cX : ClassId} {kX : Class} (hfoundX : s.vm.findClass cls = some cX) (hkX : s.vm.classes[cX]? = some kX) (hcell : W.heap[a]? = some (freshCell cX kX)) (hnew : s.heap.size ≤ a)
    {msg : Value} (hmsg : msg.isRef = true)
    {g : JFrame} (hg : g.method = m₀) (hsize : g.locals.size = c.maxLocals) {rest : List Value} (hstack : g.stack = msg :: .ref a :: .ref a :: rest)
    (hd6 : decode c.code g.pc = .ok (.invokespecial ic, 3))
    (hRframes : names.length + 3 < R.frames) (hRlocals : 2 * g.monitorRoom + ((Value.ref a :: rest).map fun v => v.category).sum + (13 * (names.length + 1) + 42) ≤ R.locals) :
    ∃ (V : State) (ce : Cell) (L : List Loc), Stand p l e R s m₀ args below meth c (V.setCell a ce) (locs ++ L) cells slots ∧ (∀ y ∈ L, y.base = a) ∧ a < V.heap.size ∧ ce.cls = cX ∧ ce.vm = .none ∧
      ∀ target, Steps p.tables e below ((V.setCell a ce).setTop { g with stack := .ref a :: rest, pc := g.pc + 3 }) target → Steps p.tables e below (W.setTop g) target := by
  have howns : e.platform.frameOwnsMonitors = true := by rw [X.admits.platform]
  have hfin : e.platform.finalization = false := by rw [X.admits.platform]
  have hpl : e.platform.magicAccessors = ({} : Platform).magicAccessors := by rw [X.admits.platform]
  have a' : ∀ x, x ∈ Bundle.ownAtoms own ic cls names → x.holds args s none s [] = true := fun x hx => h x hx
  obtain ⟨T, Z0, L, -, Y⟩ := ThrowableC.of_atoms (args := args) howns hfin hpl (fun x hx => h x (by simp [Bundle.ownAtoms, hx]))
  obtain ⟨Z, M, LZ, LM, hnZ⟩ := Init0T.ofS_atoms (args := args) hpl L Y (fun x hx => h x (by simp [Bundle.ownAtoms, hx]))
  obtain ⟨P1, Ps, hlen, L1, hL, hP1m, hlink1, hlink⟩ := Bundle.chainS (args := args) hpl hnZ names cls hcls hnames (fun x hx => h x (by simp [Bundle.ownAtoms, hx]))
  have hfound : s.vm.findClass cls = some P1.m.cls := findClass_of_methodNamed hP1m
  cases Option.some.inj (hfoundX.symm.trans hfound)
  obtain ⟨c1, kX', hc1, hk, hord, -, -, hn6⟩ := Cond.instantiable_spec (a' (.instantiable cls 6) (by simp [Bundle.ownAtoms]))
  cases Option.some.inj (hc1.symm.trans hfound)
  cases Option.some.inj (hkX.symm.trans hk)
  have hsel0 : selectMethod e.platform s.vm P1.m.cls T.fill0 = .method T.fill0 := by
    obtain ⟨c2, r2, m2, q1, q2, q3, q4, -⟩ := Cond.selects_spec (a' (.selects cls Bundle.tFill0 Bundle.tFill0) (by simp [Bundle.ownAtoms]))
    cases Option.some.inj (q1.symm.trans hfound)
    cases Option.some.inj (q2.symm.trans (State.methodFound?_of_named Y.fill0 (by decide)))
    cases Option.some.inj (q3.symm.trans Y.fill0)
    rw [Launch.admits_selectMethod X.admits]; exact q4
  have hselF : selectMethod e.platform s.vm P1.m.cls T.fill = .method T.fill := by
    obtain ⟨c2, r2, m2, q1, q2, q3, q4, -⟩ := Cond.selects_spec (a' (.selects cls Bundle.tFill Bundle.tFill) (by simp [Bundle.ownAtoms]))
    cases Option.some.inj (q1.symm.trans hfound)
    cases Option.some.inj (q2.symm.trans (State.methodFound?_of_named Y.fill (by decide)))
    cases Option.some.inj (q3.symm.trans Y.fill)
    rw [Launch.admits_selectMethod X.admits]; exact q4
  obtain ⟨cellS0, hcS0, hiss⟩ := Y.statics
  obtain ⟨u0, hu0⟩ := Cond.staticRefV Y.unassigned L.unassignedStatic L.statics hcS0 hiss (a' (.isRef (.static Bundle.tN "UNASSIGNED_STACK" Bundle.steD)) (by simp [Bundle.ownAtoms]))
  obtain ⟨sen, hsen⟩ := Cond.staticRefV Y.sentinel L.sentinelStatic L.statics hcS0 hiss (a' (.isRef (.static Bundle.tN "SUPPRESSED_SENTINEL" Bundle.listD)) (by simp [Bundle.ownAtoms]))
  obtain ⟨ci198, i198, fB, hk198, hg198, ha198, hsB, -, hnB, htB, hffB⟩ := Cond.ownField (t := .object "java/lang/Object") Y.found L.cls (by decide +kernel) (a' (.fieldLink Bundle.tN 198 Bundle.tN "backtrace" "Ljava/lang/Object;") (by simp [Bundle.ownAtoms])) (a' (.lays Bundle.tN Bundle.tN "backtrace" "Ljava/lang/Object;") (by simp [Bundle.ownAtoms])) e.platform hpl
  obtain ⟨cellS, hcS', heS, -, hkeep⟩ := X.same.2.2.2.2.2 T.aS cellS0 hcS0
  have hcellS : W.heap[T.aS]? = some cellS := hcS'
  have hout' : ∀ i, (⟨T.aS, i⟩ : Loc) ∉ locs := fun i hmem => by
    have := hlocs _ hmem cellS0 hcS0
    rw [hiss] at this; cases this
  have hknownS : cellS.vm ≠ .unknown := by
    rw [heS]; intro hu
    rw [show cellS0.vm = .unknown from hu] at hiss
    cases hiss
  have hneS : T.aS ≠ a := Nat.ne_of_lt (Nat.lt_of_lt_of_le (Array.getElem?_eq_some_iff.mp hcS0).1 hnew)
  obtain ⟨iM, hffM⟩ := Y.msg
  obtain ⟨tyC, dC, hdC, hdnC⟩ := Cond.laysAt hfound hk Y.cause (a' (.lays cls Bundle.tN "cause" "Ljava/lang/Throwable;") (by simp [Bundle.ownAtoms]))
  obtain ⟨tyS, dS, hdS, hdnS⟩ := Cond.laysAt hfound hk Y.stack (a' (.lays cls Bundle.tN "stackTrace" Bundle.steD) (by simp [Bundle.ownAtoms]))
  obtain ⟨tyP, dP, hdP, hdnP⟩ := Cond.laysAt hfound hk Y.supp (a' (.lays cls Bundle.tN "suppressedExceptions" Bundle.listD) (by simp [Bundle.ownAtoms]))
  obtain ⟨tyM, dM, hdM, hdnM⟩ := Cond.laysAt hfound hk hffM (a' (.lays cls Bundle.tN "detailMessage" "Ljava/lang/String;") (by simp [Bundle.ownAtoms]))
  obtain ⟨tyB, dB, hdB, hdnB⟩ := Cond.laysAt hfound hk hffB (a' (.lays cls Bundle.tN "backtrace" "Ljava/lang/Object;") (by simp [Bundle.ownAtoms]))
  have bC := Cond.laysApart hdB hdC hdnB hdnC (by rw [hnB, Y.causeName]; decide)
  have bS := Cond.laysApart hdB hdS hdnB hdnS (by rw [hnB, Y.stackName]; decide)
  have bP := Cond.laysApart hdB hdP hdnB hdnP (by rw [hnB, Y.suppName]; decide)
  have hskip : SkipFacts T e.platform s (fun u => u) u0 ((preparedCellV T.toThrowableT (freshCell P1.m.cls kX) a u0 sen).withEntry W.cur) :=
    ⟨{ ci198 := ci198, i198 := i198, fBack := fB }, ⟨hk198, hg198, ha198, hsB⟩, by
      have := fresh_default (c := P1.m.cls) tyB
      rw [htB] at this
      simpa [preparedCellV, Cell.setSlot, Cell.withEntry, Array.getElem?_setIfInBounds, bC, bS, bP, bC.symm, bS.symm, bP.symm, defaultValue] using this, fun _ _ => rfl⟩
  obtain ⟨tm, methC, cdC, kC, vm₁, hnC, -, -, -, -, -, -, -, hW₁, st1⟩ := Steps.initColdS (tb := p.tables) (e := e) (below := below) (s := s) (U := W) X.here hexec X.warmed hpl hown (t := Bundle.initS cls) rfl rfl (Bundle.fit_spec hcls).2
    (a' (.methodLink own ic (Bundle.initS cls)) (by simp [Bundle.ownAtoms])) (h (.instanceMethod (Bundle.initS cls)) (by cases names <;> simp [Bundle.ownAtoms, Bundle.chainSAtoms, Bundle.passSAtoms])) (bytes := Bundle.six) (maxL := 2) (h (.code (Bundle.initS cls) Bundle.six 2 none) (by cases names <;> simp [Bundle.ownAtoms, Bundle.chainSAtoms, Bundle.passSAtoms]))
    (f := g) hg (a := a) (msg := msg) (rest := .ref a :: rest) hstack hd6
  cases Option.some.inj (hnC.symm.trans hP1m)
  have X₁ := X.noted hW₁
  obtain ⟨vm₂, X₂, st2⟩ := X₁.ctorMessageOffV hexec (g := { g with stack := .ref a :: rest }) hg hsize T L Z LZ M LM (P1 :: Ps)
    (fun P hP => by rcases List.mem_cons.mp hP with rfl | hP; exact L1; exact hL P hP) ⟨hlink1, hlink⟩ (u0 := u0) (sen := sen) (self := a) hmsg (cell := freshCell P1.m.cls kX) (cellS := cellS)
    hcell (fun _ => by simp) (by simp) rfl rfl hsel0 hselF hcellS hneS hknownS (by rw [hkeep _ (hout' _)]; exact hu0) (by rw [hkeep _ (hout' _)]; exact hsen)
    (Takes.of_laid hk hord tyC (by rw [Y.causeType]; rfl)) (Takes.of_laid hk hord tyS (by rw [Y.stackType]; exact fits_refV_array _ u0)) (Takes.of_laid hk hord tyP (by rw [Y.suppType]; exact fits_refV_object _ sen))
    (Takes.of_laid hk hord tyM (by rw [Y.msgType]; exact fits_refV_object _ ⟨msg, hmsg⟩)) Y.objLocals hskip htr [] hd6
    (by simp only [List.length_cons, hlen]; omega) (by simp only [List.length_cons, hlen]; exact hRlocals)
  have hlt : a < ((W.setVm vm₁).setVm vm₂).heap.size := (Array.getElem?_eq_some_iff.mp hcell).1
  refine ⟨(W.setVm vm₁).setVm vm₂, _, _, X₂, fun y hy => ?_, hlt, rfl, rfl, fun target hwalk => st1 _ (fun acts => ?_)⟩
  · simp only [List.mem_cons, List.not_mem_nil, or_false] at hy
    rcases hy with rfl | rfl | rfl | rfl | rfl <;> rfl
  · rw [doInvoke_state]
    exact st2 _ hwalk
set_option maxHeartbeats 1000000 in
theorem vx_ctorMade0 (X : Stand p l e R s m₀ args below meth c W locs cells slots) (hexec : p.tables.exec = Jvm.exec) (htr : e.platform.stackTraces = false) {own cls : String} {names : List String} {ic : Nat}
    (hown : s.vm.findClass own = some m₀.cls) (hcls : Bundle.fit cls = true) (hnames : ∀ n ∈ names, Bundle.fit n = true)
    (h : ∀ a ∈ Bundle.ownAtoms0 own ic cls names, a.before args s = true)
    (hlocs : ∀ x ∈ locs, ∀ cell, s.heap[x.base]? = some cell → cell.vm.isStatics = false)
    {a : Addr} {cX : ClassId} {kX : Class} (hfoundX : s.vm.findClass cls = some cX) (hkX : s.vm.classes[cX]? = some kX) (hcell : W.heap[a]? = some (freshCell cX kX)) (hnew : s.heap.size ≤ a)
    {g : JFrame} (hg : g.method = m₀) (hsize : g.locals.size = c.maxLocals) {rest : List Value} (hstack : g.stack = .ref a :: .ref a :: rest)
    (hd6 : decode c.code g.pc = .ok (.invokespecial ic, 3))
    (hRframes : names.length + 3 < R.frames) (hRlocals : 2 * g.monitorRoom + ((Value.ref a :: rest).map fun v => v.category).sum + (13 * (names.length + 1) + 41) ≤ R.locals) :
    ∃ (V : State) (ce : Cell) (L : List Loc), Stand p l e R s m₀ args below meth c (V.setCell a ce) (locs ++ L) cells slots ∧ (∀ y ∈ L, y.base = a) ∧ a < V.heap.size ∧ ce.cls = cX ∧ ce.vm = .none ∧
      ∀ target, Steps p.tables e below ((V.setCell a ce).setTop { g with stack := .ref a :: rest, pc := g.pc + 3 }) target → Steps p.tables e below (W.setTop g) target := by
  have howns : e.platform.frameOwnsMonitors = true := by rw [X.admits.platform]
  have hfin : e.platform.finalization = false := by rw [X.admits.platform]
  have hpl : e.platform.magicAccessors = ({} : Platform).magicAccessors := by rw [X.admits.platform]
  have a' : ∀ x, x ∈ Bundle.ownAtoms0 own ic cls names → x.holds args s none s [] = true := fun x hx => h x hx
  obtain ⟨T, Z, L, LZ, Y⟩ := ThrowableC.of_atoms (args := args) howns hfin hpl (fun x hx => h x (by simp [Bundle.ownAtoms0, hx]))
  obtain ⟨P1, Ps, hlen, L1, hL, hP1m, hlink1, hlink⟩ := Bundle.chain0 (args := args) hpl Y.init0 names cls hcls hnames (fun x hx => h x (by simp [Bundle.ownAtoms0, hx]))
  have hfound : s.vm.findClass cls = some P1.m.cls := findClass_of_methodNamed hP1m
  cases Option.some.inj (hfoundX.symm.trans hfound)
  obtain ⟨c1, kX', hc1, hk, hord, -, -, hn6⟩ := Cond.instantiable_spec (a' (.instantiable cls 6) (by simp [Bundle.ownAtoms0]))
  cases Option.some.inj (hc1.symm.trans hfound)
  cases Option.some.inj (hkX.symm.trans hk)
  have hsel0 : selectMethod e.platform s.vm P1.m.cls T.fill0 = .method T.fill0 := by
    obtain ⟨c2, r2, m2, q1, q2, q3, q4, -⟩ := Cond.selects_spec (a' (.selects cls Bundle.tFill0 Bundle.tFill0) (by simp [Bundle.ownAtoms0]))
    cases Option.some.inj (q1.symm.trans hfound)
    cases Option.some.inj (q2.symm.trans (State.methodFound?_of_named Y.fill0 (by decide)))
    cases Option.some.inj (q3.symm.trans Y.fill0)
    rw [Launch.admits_selectMethod X.admits]; exact q4
  have hselF : selectMethod e.platform s.vm P1.m.cls T.fill = .method T.fill := by
    obtain ⟨c2, r2, m2, q1, q2, q3, q4, -⟩ := Cond.selects_spec (a' (.selects cls Bundle.tFill Bundle.tFill) (by simp [Bundle.ownAtoms0]))
    cases Option.some.inj (q1.symm.trans hfound)
    cases Option.some.inj (q2.symm.trans (State.methodFound?_of_named Y.fill (by decide)))
    cases Option.some.inj (q3.symm.trans Y.fill)
    rw [Launch.admits_selectMethod X.admits]; exact q4
  obtain ⟨cellS0, hcS0, hiss⟩ := Y.statics
  obtain ⟨u0, hu0⟩ := Cond.staticRefV Y.unassigned L.unassignedStatic L.statics hcS0 hiss (a' (.isRef (.static Bundle.tN "UNASSIGNED_STACK" Bundle.steD)) (by simp [Bundle.ownAtoms0]))
  obtain ⟨sen, hsen⟩ := Cond.staticRefV Y.sentinel L.sentinelStatic L.statics hcS0 hiss (a' (.isRef (.static Bundle.tN "SUPPRESSED_SENTINEL" Bundle.listD)) (by simp [Bundle.ownAtoms0]))
  obtain ⟨ci198, i198, fB, hk198, hg198, ha198, hsB, -, hnB, htB, hffB⟩ := Cond.ownField (t := .object "java/lang/Object") Y.found L.cls (by decide +kernel) (a' (.fieldLink Bundle.tN 198 Bundle.tN "backtrace" "Ljava/lang/Object;") (by simp [Bundle.ownAtoms0])) (a' (.lays Bundle.tN Bundle.tN "backtrace" "Ljava/lang/Object;") (by simp [Bundle.ownAtoms0])) e.platform hpl
  obtain ⟨cellS, hcS', heS, -, hkeep⟩ := X.same.2.2.2.2.2 T.aS cellS0 hcS0
  have hcellS : W.heap[T.aS]? = some cellS := hcS'
  have hout' : ∀ i, (⟨T.aS, i⟩ : Loc) ∉ locs := fun i hmem => by
    have := hlocs _ hmem cellS0 hcS0
    rw [hiss] at this; cases this
  have hknownS : cellS.vm ≠ .unknown := by
    rw [heS]; intro hu
    rw [show cellS0.vm = .unknown from hu] at hiss
    cases hiss
  have hneS : T.aS ≠ a := Nat.ne_of_lt (Nat.lt_of_lt_of_le (Array.getElem?_eq_some_iff.mp hcS0).1 hnew)
  obtain ⟨iM, hffM⟩ := Y.msg
  obtain ⟨tyC, dC, hdC, hdnC⟩ := Cond.laysAt hfound hk Y.cause (a' (.lays cls Bundle.tN "cause" "Ljava/lang/Throwable;") (by simp [Bundle.ownAtoms0]))
  obtain ⟨tyS, dS, hdS, hdnS⟩ := Cond.laysAt hfound hk Y.stack (a' (.lays cls Bundle.tN "stackTrace" Bundle.steD) (by simp [Bundle.ownAtoms0]))
  obtain ⟨tyP, dP, hdP, hdnP⟩ := Cond.laysAt hfound hk Y.supp (a' (.lays cls Bundle.tN "suppressedExceptions" Bundle.listD) (by simp [Bundle.ownAtoms0]))
  obtain ⟨tyM, dM, hdM, hdnM⟩ := Cond.laysAt hfound hk hffM (a' (.lays cls Bundle.tN "detailMessage" "Ljava/lang/String;") (by simp [Bundle.ownAtoms0]))
  obtain ⟨tyB, dB, hdB, hdnB⟩ := Cond.laysAt hfound hk hffB (a' (.lays cls Bundle.tN "backtrace" "Ljava/lang/Object;") (by simp [Bundle.ownAtoms0]))
  have bC := Cond.laysApart hdB hdC hdnB hdnC (by rw [hnB, Y.causeName]; decide)
  have bS := Cond.laysApart hdB hdS hdnB hdnS (by rw [hnB, Y.stackName]; decide)
  have bP := Cond.laysApart hdB hdP hdnB hdnP (by rw [hnB, Y.suppName]; decide)
  have hskip : SkipFacts T e.platform s (fun u => u) u0 ((preparedCellV T.toThrowableT (freshCell P1.m.cls kX) a u0 sen).withEntry W.cur) :=
    ⟨{ ci198 := ci198, i198 := i198, fBack := fB }, ⟨hk198, hg198, ha198, hsB⟩, by
      have := fresh_default (c := P1.m.cls) tyB
      rw [htB] at this
      simpa [preparedCellV, Cell.setSlot, Cell.withEntry, Array.getElem?_setIfInBounds, bC, bS, bP, bC.symm, bS.symm, bP.symm, defaultValue] using this, fun _ _ => rfl⟩
  obtain ⟨tm, methC, cdC, kC, vm₁, hnC, -, -, -, -, -, -, -, hW₁, st1⟩ := Steps.initCold (tb := p.tables) (e := e) (below := below) (s := s) (U := W) X.here hexec X.warmed hpl hown (t := Bundle.init0 cls) rfl rfl (Bundle.fit_spec hcls).2
    (a' (.methodLink own ic (Bundle.init0 cls)) (by simp [Bundle.ownAtoms0])) (h (.instanceMethod (Bundle.init0 cls)) (by cases names <;> simp [Bundle.ownAtoms0, Bundle.chain0Atoms, Bundle.passAtoms])) (bytes := Bundle.five) (maxL := 1) (h (.code (Bundle.init0 cls) Bundle.five 1 none) (by cases names <;> simp [Bundle.ownAtoms0, Bundle.chain0Atoms, Bundle.passAtoms]))
    (f := g) hg (a := a) (rest := .ref a :: rest) hstack hd6
  cases Option.some.inj (hnC.symm.trans hP1m)
  have X₁ := X.noted hW₁
  obtain ⟨vm₂, X₂, st2⟩ := X₁.ctorPlainOffV hexec (g := { g with stack := .ref a :: rest }) hg hsize T L Z LZ (P1 :: Ps)
    (fun P hP => by rcases List.mem_cons.mp hP with rfl | hP; exact L1; exact hL P hP) ⟨hlink1, hlink⟩ (u0 := u0) (sen := sen) (self := a) (cell := freshCell P1.m.cls kX) (cellS := cellS)
    hcell (fun _ => by simp) (by simp) rfl rfl hsel0 hselF hcellS hneS hknownS (by rw [hkeep _ (hout' _)]; exact hu0) (by rw [hkeep _ (hout' _)]; exact hsen)
    (Takes.of_laid hk hord tyC (by rw [Y.causeType]; rfl)) (Takes.of_laid hk hord tyS (by rw [Y.stackType]; exact fits_refV_array _ u0)) (Takes.of_laid hk hord tyP (by rw [Y.suppType]; exact fits_refV_object _ sen)) Y.objLocals hskip htr [] hd6
    (by simp only [List.length_cons, hlen]; omega) (by simp only [List.length_cons, hlen]; exact hRlocals)
  have hlt : a < ((W.setVm vm₁).setVm vm₂).heap.size := (Array.getElem?_eq_some_iff.mp hcell).1
  refine ⟨(W.setVm vm₁).setVm vm₂, _, _, X₂, fun y hy => ?_, hlt, rfl, rfl, fun target hwalk => st1 _ (fun acts => ?_)⟩
  · simp only [List.mem_cons, List.not_mem_nil, or_false] at hy
    rcases hy with rfl | rfl | rfl | rfl <;> rfl
  · rw [doInvoke_state]
    exact st2 _ hwalk
end VXK
section VXK2
variable {p : Program} {l : Launch} {e : Env} {R : Room} {s : State} {m : MethodId} {args : Array Value} {below : List Frame} {meth : Method} {c : Code} {H : Heap} {locs : List Loc} {cells slots : Nat} {Q : State → Prop}
variable {ls : Array Slot} {rest : List Value} {D : va_G} {cl : List vw_C} {tys : List (ClassId × FieldType)} {ws : va_W}
/-- 'new E("text")' that isn't thrown at once: the object goes on the stack -/
theorem vx_makeS {cc : ByteArray} {pc : Nat} (hexec : p.tables.exec = Jvm.exec) (hb : c.code = cc) (hl : l.stackTraces = false) {own cls text : String} {names : List String} {ik is ic sa ci : Nat} {A : Nat → Prop} {T0 : u_T}
    (hown : s.vm.findClass own = some m.cls) (hcls : Bundle.fit cls = true) (hnames : ∀ n ∈ names, Bundle.fit n = true)
    (hk : (Cond.classLink own ik cls).before args s = true) (hini : (Cond.initialized cls).before args s = true) (hstr : vk_R own is text sa s) (hat : ∀ w ∈ vx_atS own ic cls names, w.before args s = true)
    (hgood : ∀ w ∈ Cond.classLink own ik cls :: Cond.initialized cls :: vx_atS own ic cls names, vx_ot w = true)
    (hU : vx_Zq Bundle.tN "UNASSIGNED_STACK" Bundle.steD A s s.heap) (hN : vx_Zq Bundle.tN "SUPPRESSED_SENTINEL" Bundle.listD A s s.heap) (hS : va_S A s.heap H locs) (hsize : ls.size = c.maxLocals)
    (d0 : decode cc pc = .ok (.new ik, 3)) (d3 : decode cc (pc + 3) = .ok (.dup, 1)) (d4 : decode cc (pc + 4) = .ok (.ldc is, 2)) (d6 : decode cc (pc + 6) = .ok (.invokespecial ic, 3))
    (hK : va_K D cl tys s) (hP : va_P D cl ws H) (hD : va_D A ws) (hA : ∀ q, s.heap.size ≤ q → A q) (hc : cl[ci]? = some (cls, T0, 0))
    (hRframes : names.length + 3 < R.frames) (hRlocals : (rest.map fun v => v.category).sum + (13 * (names.length + 1) + 43) ≤ R.locals) (hRcells : cells + 1 ≤ R.cells) (hRslots : slots + 6 ≤ R.slots)
    (kk : ∀ (q : Nat) (H1 : Heap), va_P D cl (ws ++ [(q, .inr (ci, []))]) H1 → va_D A (ws ++ [(q, .inr (ci, []))]) → va_S A s.heap H1 locs → W p l e R s m args below meth c H1 locs (cells + 1) (slots + 6) Q (F0 m (pc + 9) ls (.ref q :: rest))) :
    W p l e R s m args below meth c H locs cells slots Q (F0 m pc ls rest) := by
  intro T hT X
  subst hT
  have htr : e.platform.stackTraces = false := (show e.platform.stackTraces = l.stackTraces by rw [X.admits.platform]).trans hl
  have Y := vx_rebase X (R' := { frames := R.frames, locals := R.locals, cells := 1, slots := 6 }) (Nat.le_refl _) (Nat.le_refl _) hRcells hRslots
  obtain ⟨s', hA'⟩ : ∃ z, z = (T.setVm s.vm).setFrames (.invoking m args :: below) := ⟨_, rfl⟩
  rw [← hA'] at Y
  have hvm : s'.vm = s.vm := by rw [hA']; rfl
  have hhp : s'.heap = T.heap := by rw [hA']; rfl
  have hW0 : s.WarmedH s'.vm := by rw [hvm]; exact State.WarmedH.refl s
  have hat' : ∀ w ∈ vx_atS own ic cls names, w.before args s' = true := fun w hw => vx_ot_at hW0 hvm.symm (hgood w (List.mem_cons_of_mem _ (List.mem_cons_of_mem _ hw))) (hat w hw)
  have hk' : (Cond.classLink own ik cls).before args s' = true := vx_ot_at hW0 hvm.symm (hgood _ List.mem_cons_self) hk
  have hini' : (Cond.initialized cls).before args s' = true := vx_ot_at hW0 hvm.symm (hgood _ (List.mem_cons_of_mem _ List.mem_cons_self)) hini
  have hU' : vx_Zq Bundle.tN "UNASSIGNED_STACK" Bundle.steD A s' s'.heap := by rw [hhp]; exact vx_Zq.moved hW0.alike (hU.kept hS.2.1)
  have hN' : vx_Zq Bundle.tN "SUPPRESSED_SENTINEL" Bundle.listD A s' s'.heap := by rw [hhp]; exact vx_Zq.moved hW0.alike (hN.kept hS.2.1)
  have h : ∀ w ∈ Bundle.ownAtoms own ic cls names, w.before args s' = true := vx_own hat' (vx_isRefq hU'.1) (vx_isRefq hN'.1) hU'.2.word hN'.2.word
  have hown' : s'.vm.findClass own = some m.cls := by rw [hvm]; exact hown
  have hins : (Cond.instantiable cls 6).before args s' = true := h _ (by simp [Bundle.ownAtoms])
  obtain ⟨vm₁, cX, kX, hfX, hkX, -, -, X₁, st1⟩ := Y.newCold hexec (own := own) (C := cls) (index := ik) (n := 6) hown' hk' hins hini'
    (g := F0 m pc ls rest) rfl (by rw [hb]; exact d0) (Nat.le_refl _) (Nat.le_refl _)
  generalize hT1 : (T.setVm vm₁).pushCell { cls := cX, slots := kX.instanceTypes.map defaultValue, vm := .none } = T1 at X₁ st1
  have hcat : (Value.ref T.heap.size).category = 1 := rfl
  have hcellA : T1.heap[T.heap.size]? = some (freshCell cX kX) := by rw [← hT1]; exact State.heap_pushCell_size _ _
  have d3' : decode c.code (pc + 3) = .ok (.dup, 1) := by rw [hb]; exact d3
  have d4' : decode c.code (pc + 4) = .ok (.ldc is, 2) := by rw [hb]; exact d4
  have hstr' : vk_R own is text sa s' := vk_R.warm hW0 hstr
  obtain ⟨V, ce, L, Z, hL, hlt, hcl9, hvm9, st⟩ := vx_ctorMadeS X₁ hexec htr (own := own) (cls := cls) (names := names) (ic := ic) hown' hcls hnames h (fun x hx => nomatch hx) hfX hkX hcellA (by rw [hhp]; exact Nat.le_refl _) (msg := .ref sa) rfl
    (g := { method := m, pc := pc + 6, locals := ls, stack := .ref sa :: .ref T.heap.size :: .ref T.heap.size :: rest, locked := none }) rfl hsize (rest := rest) rfl
    (by rw [hb]; exact d6) hRframes (by simp only [List.map_cons, List.sum_cons, hcat]; omega)
  have Z0 := Stand.forget (locs := []) Z (fun y hy => by rw [hL y hy, hhp]; exact Nat.le_refl _)
  obtain ⟨f1, f2⟩ := vx_frame Z0.same
  rw [hhp] at f1 f2
  have hcid : ce.cls = D.1 ci := by
    rw [hcl9]
    have h1 := (hK.1 ci _ hc).2.1
    rw [hvm] at hfX
    exact Option.some.inj (hfX.symm.trans h1)
  have hh : (V.setCell T.heap.size ce).heap[T.heap.size]? = some ce := heapAt_setCell_self (s := V) ce hlt
  subst hA'
  have X5 := vx_back9 X Y Z0
  have X6 : Stand p l e R s m args below meth c (V.setCell T.heap.size ce) locs (cells + 1) (slots + 6) := { X5 with same := X5.same.mono (by omega) (by omega) }
  have hk9 : ∀ (k : Nat) (x : Nat × va_E), ws[k]? = some x → (V.setCell T.heap.size ce).heap[x.1]? = T.heap[x.1]? := fun k x hx => f2 x.1 ((hP k x hx).lt) (fun z hz => nomatch hz)
  obtain ⟨t, a1, b1⟩ := kk T.heap.size (V.setCell T.heap.size ce).heap ((hP.kept hk9).app (fun k x hx => by
      have hz : k < 1 := (List.getElem?_eq_some_iff.mp hx).1
      rw [show k = 0 by omega] at hx
      cases hx
      exact ⟨_, hc, ce, hh, hcid, hvm9, fun k hk => absurd hk (Nat.not_lt_zero k)⟩)) (hD.push hP rfl (hA _ hS.1)) ⟨Nat.le_trans hS.1 f1, fun q h1 h2 => (f2 q (Nat.lt_of_lt_of_le h1 hS.1) (fun z hz => nomatch hz)).trans (hS.2.1 q h1 h2), hS.2.2⟩ _ rfl X6
  refine ⟨t, st1 _ ?_, b1⟩
  show Steps p.tables e below (T1.setTop { method := m, pc := pc + 3, locals := ls, stack := .ref T.heap.size :: rest, locked := none }) _
  jvm_step X₁.here [X₁.here.top, hexec, d3', Value.category]
  exact X₁.ldcString hexec (own := own) (text := text) (index := is) (a := sa) hown' hstr'.1 hstr'.2
    (g := { method := m, pc := pc + 4, locals := ls, stack := .ref T.heap.size :: .ref T.heap.size :: rest, locked := none }) rfl d4' _ (st _ a1)
/-- 'new E()' that isn't thrown at once: the object goes on the stack -/
theorem vx_make0 {cc : ByteArray} {pc : Nat} (hexec : p.tables.exec = Jvm.exec) (hb : c.code = cc) (hl : l.stackTraces = false) {own cls : String} {names : List String} {ik ic ci : Nat} {A : Nat → Prop} {T0 : u_T}
    (hown : s.vm.findClass own = some m.cls) (hcls : Bundle.fit cls = true) (hnames : ∀ n ∈ names, Bundle.fit n = true)
    (hk : (Cond.classLink own ik cls).before args s = true) (hini : (Cond.initialized cls).before args s = true) (hat : ∀ w ∈ vx_at0 own ic cls names, w.before args s = true)
    (hgood : ∀ w ∈ Cond.classLink own ik cls :: Cond.initialized cls :: vx_at0 own ic cls names, vx_ot w = true)
    (hU : vx_Zq Bundle.tN "UNASSIGNED_STACK" Bundle.steD A s s.heap) (hN : vx_Zq Bundle.tN "SUPPRESSED_SENTINEL" Bundle.listD A s s.heap) (hS : va_S A s.heap H locs) (hsize : ls.size = c.maxLocals)
    (d0 : decode cc pc = .ok (.new ik, 3)) (d3 : decode cc (pc + 3) = .ok (.dup, 1)) (d4 : decode cc (pc + 4) = .ok (.invokespecial ic, 3))
    (hK : va_K D cl tys s) (hP : va_P D cl ws H) (hD : va_D A ws) (hA : ∀ q, s.heap.size ≤ q → A q) (hc : cl[ci]? = some (cls, T0, 0))
    (hRframes : names.length + 3 < R.frames) (hRlocals : (rest.map fun v => v.category).sum + (13 * (names.length + 1) + 42) ≤ R.locals) (hRcells : cells + 1 ≤ R.cells) (hRslots : slots + 6 ≤ R.slots)
    (kk : ∀ (q : Nat) (H1 : Heap), va_P D cl (ws ++ [(q, .inr (ci, []))]) H1 → va_D A (ws ++ [(q, .inr (ci, []))]) → va_S A s.heap H1 locs → W p l e R s m args below meth c H1 locs (cells + 1) (slots + 6) Q (F0 m (pc + 7) ls (.ref q :: rest))) :
    W p l e R s m args below meth c H locs cells slots Q (F0 m pc ls rest) := by
  intro T hT X
  subst hT
  have htr : e.platform.stackTraces = false := (show e.platform.stackTraces = l.stackTraces by rw [X.admits.platform]).trans hl
  have Y := vx_rebase X (R' := { frames := R.frames, locals := R.locals, cells := 1, slots := 6 }) (Nat.le_refl _) (Nat.le_refl _) hRcells hRslots
  obtain ⟨s', hA'⟩ : ∃ z, z = (T.setVm s.vm).setFrames (.invoking m args :: below) := ⟨_, rfl⟩
  rw [← hA'] at Y
  have hvm : s'.vm = s.vm := by rw [hA']; rfl
  have hhp : s'.heap = T.heap := by rw [hA']; rfl
  have hW0 : s.WarmedH s'.vm := by rw [hvm]; exact State.WarmedH.refl s
  have hat' : ∀ w ∈ vx_at0 own ic cls names, w.before args s' = true := fun w hw => vx_ot_at hW0 hvm.symm (hgood w (List.mem_cons_of_mem _ (List.mem_cons_of_mem _ hw))) (hat w hw)
  have hk' : (Cond.classLink own ik cls).before args s' = true := vx_ot_at hW0 hvm.symm (hgood _ List.mem_cons_self) hk
  have hini' : (Cond.initialized cls).before args s' = true := vx_ot_at hW0 hvm.symm (hgood _ (List.mem_cons_of_mem _ List.mem_cons_self)) hini
  have hU' : vx_Zq Bundle.tN "UNASSIGNED_STACK" Bundle.steD A s' s'.heap := by rw [hhp]; exact vx_Zq.moved hW0.alike (hU.kept hS.2.1)
  have hN' : vx_Zq Bundle.tN "SUPPRESSED_SENTINEL" Bundle.listD A s' s'.heap := by rw [hhp]; exact vx_Zq.moved hW0.alike (hN.kept hS.2.1)
  have h : ∀ w ∈ Bundle.ownAtoms0 own ic cls names, w.before args s' = true := vx_own hat' (vx_isRefq hU'.1) (vx_isRefq hN'.1) hU'.2.word hN'.2.word
  have hown' : s'.vm.findClass own = some m.cls := by rw [hvm]; exact hown
  have hins : (Cond.instantiable cls 6).before args s' = true := h _ (by simp [Bundle.ownAtoms0])
  obtain ⟨vm₁, cX, kX, hfX, hkX, -, -, X₁, st1⟩ := Y.newCold hexec (own := own) (C := cls) (index := ik) (n := 6) hown' hk' hins hini'
    (g := F0 m pc ls rest) rfl (by rw [hb]; exact d0) (Nat.le_refl _) (Nat.le_refl _)
  generalize hT1 : (T.setVm vm₁).pushCell { cls := cX, slots := kX.instanceTypes.map defaultValue, vm := .none } = T1 at X₁ st1
  have hcat : (Value.ref T.heap.size).category = 1 := rfl
  have hcellA : T1.heap[T.heap.size]? = some (freshCell cX kX) := by rw [← hT1]; exact State.heap_pushCell_size _ _
  have d3' : decode c.code (pc + 3) = .ok (.dup, 1) := by rw [hb]; exact d3
  obtain ⟨V, ce, L, Z, hL, hlt, hcl9, hvm9, st⟩ := vx_ctorMade0 X₁ hexec htr (own := own) (cls := cls) (names := names) (ic := ic) hown' hcls hnames h (fun x hx => nomatch hx) hfX hkX hcellA (by rw [hhp]; exact Nat.le_refl _)
    (g := { method := m, pc := pc + 4, locals := ls, stack := .ref T.heap.size :: .ref T.heap.size :: rest, locked := none }) rfl hsize (rest := rest) rfl
    (by rw [hb]; exact d4) hRframes (by simp only [List.map_cons, List.sum_cons, hcat]; omega)
  have Z0 := Stand.forget (locs := []) Z (fun y hy => by rw [hL y hy, hhp]; exact Nat.le_refl _)
  obtain ⟨f1, f2⟩ := vx_frame Z0.same
  rw [hhp] at f1 f2
  have hcid : ce.cls = D.1 ci := by
    rw [hcl9]
    have h1 := (hK.1 ci _ hc).2.1
    rw [hvm] at hfX
    exact Option.some.inj (hfX.symm.trans h1)
  have hh : (V.setCell T.heap.size ce).heap[T.heap.size]? = some ce := heapAt_setCell_self (s := V) ce hlt
  subst hA'
  have X5 := vx_back9 X Y Z0
  have X6 : Stand p l e R s m args below meth c (V.setCell T.heap.size ce) locs (cells + 1) (slots + 6) := { X5 with same := X5.same.mono (by omega) (by omega) }
  have hk9 : ∀ (k : Nat) (x : Nat × va_E), ws[k]? = some x → (V.setCell T.heap.size ce).heap[x.1]? = T.heap[x.1]? := fun k x hx => f2 x.1 ((hP k x hx).lt) (fun z hz => nomatch hz)
  obtain ⟨t, a1, b1⟩ := kk T.heap.size (V.setCell T.heap.size ce).heap ((hP.kept hk9).app (fun k x hx => by
      have hz : k < 1 := (List.getElem?_eq_some_iff.mp hx).1
      rw [show k = 0 by omega] at hx
      cases hx
      exact ⟨_, hc, ce, hh, hcid, hvm9, fun k hk => absurd hk (Nat.not_lt_zero k)⟩)) (hD.push hP rfl (hA _ hS.1)) ⟨Nat.le_trans hS.1 f1, fun q h1 h2 => (f2 q (Nat.lt_of_lt_of_le h1 hS.1) (fun z hz => nomatch hz)).trans (hS.2.1 q h1 h2), hS.2.2⟩ _ rfl X6
  refine ⟨t, st1 _ ?_, b1⟩
  show Steps p.tables e below (T1.setTop { method := m, pc := pc + 3, locals := ls, stack := .ref T.heap.size :: rest, locked := none }) _
  jvm_step X₁.here [X₁.here.top, hexec, d3', Value.category]
  exact st _ a1
/-- 'throw x' of an object that was made before -/
theorem vx_athrow {cc : ByteArray} {pc : Nat} (hexec : p.tables.exec = Jvm.exec) (hb : c.code = cc) {q : Addr} (hdg : decode cc pc = .ok (.athrow, 1)) (k : vx_W p l e R s m args below meth c H locs cells slots Q (F0 m pc ls rest) q) : W p l e R s m args below meth c H locs cells slots Q (F0 m pc ls (.ref q :: rest)) := by
  intro T hT X
  obtain ⟨t, st, hq⟩ := k T hT X
  refine ⟨t, ?_, hq⟩
  have hdg' : decode c.code pc = .ok (.athrow, 1) := by rw [hb]; exact hdg
  jvm_step X.here [X.here.top, hexec, hdg', athrow.wp_sem]
  exact st
end VXK2
/-! ===== END ===== -/
/-! ===== BEGIN a constructor that throws (launches without stack traces) ===== -/
section VXIA
variable {p : Program} {l : Launch} {e : Env} {R : Room} {s : State} {m : MethodId} {args : Array Value} {below : List Frame} {meth : Method} {c : Code} {T : State} {locs : List Loc} {cells slots : Nat}
theorem vx_callI (X : Stand p l e R s m args below meth c T locs cells slots) (hexec : p.tables.exec = Jvm.exec) {own : String} {index : Nat} {y : MethodName} {bytes : ByteArray} {maxL : Nat}
    (hown : s.vm.findClass own = some m.cls) (hy1 : y.name = "<init>") (hlink : (Cond.methodLink own index y).before args s = true) (hinst : (Cond.instanceMethod y).before args s = true)
    (hcode : (Cond.code y bytes maxL none).before args s = true) (hy : y.cls ≠ "java/lang/invoke/MethodHandle" ∧ y.cls ≠ "java/lang/invoke/VarHandle")
    {W9 : Nat} {Pre : Pt → Array Value → Prop} {Post : Pt → Array Value → Option Value → Pt → Prop} {PostX : Pt → Array Value → Addr → Pt → Prop} (hK : vx_Back l R p e below s args y 3 W9 Pre Post PostX)
    {g : JFrame} (hg : g.method = m) (hsize : g.locals.size = c.maxLocals) {a : Addr} {argsL rest : List Value} (hlen : ∀ sig, parseMethodDescriptor y.desc = some sig → argsL.length = sig.parameters.length)
    (hstack : g.stack = argsL.reverse ++ .ref a :: rest) (hW : 2 * g.monitorRoom + (rest.map fun v => v.category).sum ≤ W9) (hdg : decode c.code g.pc = .ok (.invokespecial index, 3))
    (hpre : ∀ vm₁, s.WarmedH vm₁ → Pre ⟨T.setVm vm₁, locs, cells, slots⟩ (Value.ref a :: argsL).toArray) :
    (∃ (v : Option Value) (vm₁ : Vm) (B : Pt), s.WarmedH vm₁ ∧ Stand p l e R s m args below meth c B.U B.locs B.cells B.slots ∧ Post ⟨T.setVm vm₁, locs, cells, slots⟩ (Value.ref a :: argsL).toArray v B ∧
      ∀ target, Steps p.tables e below (B.U.setTop { g with pc := g.pc + 3, stack := v.toList ++ rest }) target → Steps p.tables e below (T.setTop g) target) ∨
    (∃ (q : Addr) (vm₁ : Vm) (B : Pt), s.WarmedH vm₁ ∧ Stand p l e R s m args below meth c B.U B.locs B.cells B.slots ∧ PostX ⟨T.setVm vm₁, locs, cells, slots⟩ (Value.ref a :: argsL).toArray q B ∧
      Steps p.tables e below (T.setTop g) ((B.U.setTop { g with stack := rest }).pushFrame (.throwing q))) := by
  subst hg
  have hpl : e.platform.magicAccessors = ({} : Platform).magicAccessors := by rw [X.admits.platform]
  obtain ⟨mk, methM, cM, kP, vm₁, hnamed, hmethM, hcodeM, -, hlocalsM, -, hkP, -, hW₁, hstep₁⟩ := Steps.initColdArgs (e := e) X.here hexec X.warmed hpl hown hy1 hy hlink hinst hcode (f := g) rfl hlen hstack hdg
  have X₁ := X.noted hW₁
  rcases hK g.method meth c ⟨T.setVm vm₁, locs, cells, slots⟩ { g with stack := rest } (.invokespecial index) mk (Value.ref a :: argsL).toArray X₁ rfl hsize hdg hW (X₁.named hnamed) (hpre vm₁ X₁.warmed) with ⟨v, B, X', hpost, hsteps⟩ | ⟨q, B, X', hpost, hsteps⟩
  · exact Or.inl ⟨v, vm₁, B, X₁.warmed, X', hpost, fun target h => hstep₁ _ fun acts => by rw [doInvoke_state]; exact hsteps.trans h⟩
  · exact Or.inr ⟨q, vm₁, B, X₁.warmed, X', hpost, hstep₁ _ fun acts => by rw [doInvoke_state]; exact hsteps⟩
end VXIA
section VXIB
variable {p : Program} {l : Launch} {e : Env} {R : Room} {s : State} {m : MethodId} {args : Array Value} {below : List Frame} {meth : Method} {c : Code} {H : Heap} {locs : List Loc} {cells slots : Nat}
variable {y : MethodName} {bytes cc : ByteArray} {maxL nL mc ms n index : Nat} {ret : Option FieldType} {ws : List Cond} {rm : Room} {Pc : Array Value → State → Prop} {Qc : Array Value → State → Outcome → State → Prop} {XC : String → State → State → Prop} {free : Addr → Prop} {Ts : List Cond} {own C : String} {b : Addr} {As rest : List Value} {g : JFrame}
theorem vx_runI (S : CallFix p m c cc nL s args Ts own) (hM : vx_Met l y ws rm Pc Qc XC mc ms free) (cw : CallB R s args own index y bytes maxL none ws rm mc ms n ∧ y.name = "<init>" ∧ (Cond.instanceMethod y).before args s = true) (hp : PreS s H Pc (.ref b :: As))
    (hg : g.method = m) (hn : As.length = n) (hsize : g.locals.size = nL) (hstack : g.stack = As.reverse ++ .ref b :: rest) (hW : 2 * g.monitorRoom + (rest.map fun v => v.category).sum ≤ 8) (hdg : decode cc g.pc = .ok (.invokespecial index, 3)) (hf : cells + mc ≤ R.cells ∧ slots + ms ≤ R.slots) :
    vx_Run p l e R s m args below meth c H locs cells slots mc ms g rest (Qc (Value.ref b :: As).toArray) XC free := by
  have hK : vx_Back l R p e below s args y 3 8 (PreOf R mc ms Pc) (PostOf Qc mc ms free) (vx_Post XC mc ms free) := vx_callBack cw.1 hM hp.1
  obtain ⟨⟨-, -, -, -, -, -, hcode, -, hy, hlen, hl⟩, hy1, hin⟩ := cw
  obtain ⟨hx, hb, hml, ho, -⟩ := S
  have hPc := hp.2
  intro T hT X
  rcases vx_callI X hx (bytes := bytes) (maxL := maxL) ho hy1 hl hin hcode hy hK hg (hsize.trans hml.symm) (a := b) (argsL := As) (rest := rest) (fun sig h => hn.trans (hlen sig h)) hstack hW (by rw [hb]; exact hdg)
    (fun vm₁ hW₁ => ⟨hf.1, hf.2, hPc (T.setVm vm₁) hT hW₁⟩) with ⟨v, vm₁, ⟨U', l2, c2, s2⟩, hW₁, X', ⟨g', mk, t, L, e1, e2, hq, h1, hL, h2, h3⟩, st⟩ | ⟨q, vm₁, ⟨U', l2, c2, s2⟩, hW₁, X', ⟨g', mk, t, L, E, ce, e1, e2, hq, hce, hcv, hcl, h1, hL, h2, h3⟩, st⟩
  · dsimp only [Pt.U, Pt.locs, Pt.cells, Pt.slots] at X' e1 e2 h1 h2 h3 st
    subst h1; subst h2; subst h3
    exact Or.inl ⟨v, (T.setVm vm₁).calling g' mk (Value.ref b :: As).toArray, t, U', L, hT, X', hL, e1, e2, hq, st⟩
  · dsimp only [Pt.U, Pt.locs, Pt.cells, Pt.slots] at X' e1 e2 h1 h2 h3 st hcl
    subst h1; subst h2; subst h3
    exact Or.inr ⟨q, (T.setVm vm₁).calling g' mk (Value.ref b :: As).toArray, t, U', L, E, ce, hT, X', hL, e1, e2, hq, hce, hcv, vx_cls hW₁ hcl, st⟩
end VXIB
/-! ===== END ===== -/
/-! ===== BEGIN a private constructor of a nest mate that throws ===== -/
section VXIC
variable {p : Program} {l : Launch} {e : Env} {R : Room} {s : State} {m : MethodId} {args : Array Value} {below : List Frame} {meth : Method} {c : Code} {T : State} {locs : List Loc} {cells slots : Nat}
theorem vx_callIN (X : Stand p l e R s m args below meth c T locs cells slots) (hexec : p.tables.exec = Jvm.exec) {own : String} {index : Nat} {host : String} {y : MethodName} {bytes : ByteArray} {maxL : Nat}
    (hown : s.vm.findClass own = some m.cls) (hy1 : y.name = "<init>") (hlink : (Cond.methodLinkNest own index y host).before args s = true) (hinst : (Cond.instanceMethod y).before args s = true)
    (hcode : (Cond.code y bytes maxL none).before args s = true) (hy : y.cls ≠ "java/lang/invoke/MethodHandle" ∧ y.cls ≠ "java/lang/invoke/VarHandle")
    {W9 : Nat} {Pre : Pt → Array Value → Prop} {Post : Pt → Array Value → Option Value → Pt → Prop} {PostX : Pt → Array Value → Addr → Pt → Prop} (hK : vx_Back l R p e below s args y 3 W9 Pre Post PostX)
    {g : JFrame} (hg : g.method = m) (hsize : g.locals.size = c.maxLocals) {a : Addr} {argsL rest : List Value} (hlen : ∀ sig, parseMethodDescriptor y.desc = some sig → argsL.length = sig.parameters.length)
    (hstack : g.stack = argsL.reverse ++ .ref a :: rest) (hW : 2 * g.monitorRoom + (rest.map fun v => v.category).sum ≤ W9) (hdg : decode c.code g.pc = .ok (.invokespecial index, 3))
    (hpre : ∀ vm₁, s.WarmedH vm₁ → Pre ⟨T.setVm vm₁, locs, cells, slots⟩ (Value.ref a :: argsL).toArray) :
    (∃ (v : Option Value) (vm₁ : Vm) (B : Pt), s.WarmedH vm₁ ∧ Stand p l e R s m args below meth c B.U B.locs B.cells B.slots ∧ Post ⟨T.setVm vm₁, locs, cells, slots⟩ (Value.ref a :: argsL).toArray v B ∧
      ∀ target, Steps p.tables e below (B.U.setTop { g with pc := g.pc + 3, stack := v.toList ++ rest }) target → Steps p.tables e below (T.setTop g) target) ∨
    (∃ (q : Addr) (vm₁ : Vm) (B : Pt), s.WarmedH vm₁ ∧ Stand p l e R s m args below meth c B.U B.locs B.cells B.slots ∧ PostX ⟨T.setVm vm₁, locs, cells, slots⟩ (Value.ref a :: argsL).toArray q B ∧
      Steps p.tables e below (T.setTop g) ((B.U.setTop { g with stack := rest }).pushFrame (.throwing q))) := by
  subst hg
  have hpl : e.platform.magicAccessors = ({} : Platform).magicAccessors := by rw [X.admits.platform]
  obtain ⟨mk, methM, cM, kP, vm₁, hnamed, hmethM, hcodeM, -, hlocalsM, -, hkP, -, hW₁, hstep₁⟩ := Steps.initColdArgsNest (e := e) X.here hexec X.warmed hpl hown hy1 hy hlink hinst hcode (f := g) rfl hlen hstack hdg
  have X₁ := X.noted hW₁
  rcases hK g.method meth c ⟨T.setVm vm₁, locs, cells, slots⟩ { g with stack := rest } (.invokespecial index) mk (Value.ref a :: argsL).toArray X₁ rfl hsize hdg hW (X₁.named hnamed) (hpre vm₁ X₁.warmed) with ⟨v, B, X', hpost, hsteps⟩ | ⟨q, B, X', hpost, hsteps⟩
  · exact Or.inl ⟨v, vm₁, B, X₁.warmed, X', hpost, fun target h => hstep₁ _ fun acts => by rw [doInvoke_state]; exact hsteps.trans h⟩
  · exact Or.inr ⟨q, vm₁, B, X₁.warmed, X', hpost, hstep₁ _ fun acts => by rw [doInvoke_state]; exact hsteps⟩
end VXIC
section VXID
variable {p : Program} {l : Launch} {e : Env} {R : Room} {s : State} {m : MethodId} {args : Array Value} {below : List Frame} {meth : Method} {c : Code} {H : Heap} {locs : List Loc} {cells slots : Nat}
theorem vx_runIN {y : MethodName} {bytes cc : ByteArray} {maxL nL mc ms n index : Nat} {ws : List Cond} {rm : Room} {Pc : Array Value → State → Prop} {Qc : Array Value → State → Outcome → State → Prop} {XC : String → State → State → Prop} {free : Addr → Prop} {Ts : List Cond} {own host : String} {b : Addr} {As rest : List Value} {g : JFrame}
    (S : CallFix p m c cc nL s args Ts own) (hM : vx_Met l y ws rm Pc Qc XC mc ms free) (cw : va_CN R s args own index y host bytes maxL none ws rm mc ms n ∧ y.name = "<init>" ∧ (Cond.instanceMethod y).before args s = true) (hp : PreS s H Pc (.ref b :: As))
    (hg : g.method = m) (hn : As.length = n) (hsize : g.locals.size = nL) (hstack : g.stack = As.reverse ++ .ref b :: rest) (hW : 2 * g.monitorRoom + (rest.map fun v => v.category).sum ≤ 8) (hdg : decode cc g.pc = .ok (.invokespecial index, 3)) (hf : cells + mc ≤ R.cells ∧ slots + ms ≤ R.slots) :
    vx_Run p l e R s m args below meth c H locs cells slots mc ms g rest (Qc (Value.ref b :: As).toArray) XC free := by
  obtain ⟨⟨⟨hrc, hrs, hfr, hlo, hws, hcw⟩, hcode, hini, hy, hlen, hl⟩, hx1, hx2⟩ := cw
  have hK : vx_Back l R p e below s args y 3 8 (PreOf R mc ms Pc) (PostOf Qc mc ms free) (vx_Post XC mc ms free) := vx_back (bytes := bytes) (maxL := maxL) (ret := none) hM hp.1 hrc hrs hfr hlo hws hcw (fun a' U hW => word_at hW (Or.inl (by first | rfl | simp [Cond.onTables, Cond.keeps, Cond.steady])) hini)
  obtain ⟨hx, hb, hml, ho, -⟩ := S
  have hPc := hp.2
  intro T hT X
  rcases vx_callIN X hx (bytes := bytes) (maxL := maxL) ho hx1 hl hx2 hcode hy hK hg (hsize.trans hml.symm) (a := b) (argsL := As) (rest := rest) (fun sig h => hn.trans (hlen sig h)) hstack hW (by rw [hb]; exact hdg)
    (fun vm₁ hW₁ => ⟨hf.1, hf.2, hPc (T.setVm vm₁) hT hW₁⟩) with ⟨v, vm₁, ⟨U', l2, c2, s2⟩, hW₁, X', ⟨g', mk, t, L, e1, e2, hq, h1, hL, h2, h3⟩, st⟩ | ⟨q, vm₁, ⟨U', l2, c2, s2⟩, hW₁, X', ⟨g', mk, t, L, E, ce, e1, e2, hq, hce, hcv, hcl, h1, hL, h2, h3⟩, st⟩
  · dsimp only [Pt.U, Pt.locs, Pt.cells, Pt.slots] at X' e1 e2 h1 h2 h3 st
    subst h1; subst h2; subst h3
    exact Or.inl ⟨v, (T.setVm vm₁).calling g' mk (Value.ref b :: As).toArray, t, U', L, hT, X', hL, e1, e2, hq, st⟩
  · dsimp only [Pt.U, Pt.locs, Pt.cells, Pt.slots] at X' e1 e2 h1 h2 h3 st hcl
    subst h1; subst h2; subst h3
    exact Or.inr ⟨q, (T.setVm vm₁).calling g' mk (Value.ref b :: As).toArray, t, U', L, E, ce, hT, X', hL, e1, e2, hq, hce, hcv, vx_cls hW₁ hcl, st⟩
end VXID
/-! ===== END ===== -/
/-! ===== BEGIN a method of a class above, found by the receiver, that may throw (follows va_callVU, va_runU of this kit) ===== -/
section
variable {p : Program} {l : Launch} {e : Env} {R : Room} {s : State} {m : MethodId} {args : Array Value} {below : List Frame} {meth : Method} {c : Code} {H : Heap} {locs : List Loc} {cells slots : Nat}
theorem vx_callVU {T : State} {locs : List Loc} {cells slots : Nat} (X : Stand p l e R s m args below meth c T locs cells slots) (hexec : p.tables.exec = Jvm.exec) {own C owner : String} {index : Nat} {x y : MethodName} {bytes : ByteArray} {maxL : Nat} {ret : Option FieldType}
    (hown : s.vm.findClass own = some m.cls) (hlink : (Cond.methodLink own index x).before args s = true) (hsame : (Cond.sameMethod x.cls owner x.name x.desc).before args s = true)
    (hd0 : va_Decl s ⟨owner, x.name, x.desc⟩) (howner : owner ≠ "java/lang/invoke/MethodHandle" ∧ owner ≠ "java/lang/invoke/VarHandle")
    (hsel : (Cond.selects C x y).before args s = true) (hinst : (Cond.instanceMethod y).before args s = true) (hcode : (Cond.code y bytes maxL ret).before args s = true)
    {W : Nat} {Pre : Pt → Array Value → Prop} {Post : Pt → Array Value → Option Value → Pt → Prop} {PostX : Pt → Array Value → Addr → Pt → Prop} (hK : vx_Back l R p e below s args y 3 W Pre Post PostX)
    {b : Addr} {cellB : Cell} (hcell : T.heap[b]? = some cellB) (hobj : cellB.vm.isStatics = false) (hcls : s.vm.findClass C = some cellB.cls)
    {g : JFrame} (hg : g.method = m) (hsize : g.locals.size = c.maxLocals) {argsL rest : List Value} (hlen : ∀ sig, parseMethodDescriptor x.desc = some sig → argsL.length = sig.parameters.length)
    (hstack : g.stack = argsL.reverse ++ .ref b :: rest) (hW : 2 * g.monitorRoom + (rest.map fun v => v.category).sum ≤ W) (hdg : decode c.code g.pc = .ok (.invokevirtual index, 3))
    (hpre : ∀ vm₁, s.WarmedH vm₁ → Pre ⟨T.setVm vm₁, locs, cells, slots⟩ (Value.ref b :: argsL).toArray) :
    (∃ (v : Option Value) (vm₁ : Vm) (B : Pt), s.WarmedH vm₁ ∧ Stand p l e R s m args below meth c B.U B.locs B.cells B.slots ∧ Post ⟨T.setVm vm₁, locs, cells, slots⟩ (Value.ref b :: argsL).toArray v B ∧
      ∀ target, Steps p.tables e below (B.U.setTop { g with pc := g.pc + 3, stack := v.toList ++ rest }) target → Steps p.tables e below (T.setTop g) target) ∨
    (∃ (q : Addr) (vm₁ : Vm) (B : Pt), s.WarmedH vm₁ ∧ Stand p l e R s m args below meth c B.U B.locs B.cells B.slots ∧ PostX ⟨T.setVm vm₁, locs, cells, slots⟩ (Value.ref b :: argsL).toArray q B ∧
      Steps p.tables e below (T.setTop g) ((B.U.setTop { g with stack := rest }).pushFrame (.throwing q))) := by
  obtain ⟨r0, r, hn, hrm, hstR, hsigR⟩ := hd0
  obtain ⟨cn, ck, r1, hcn, hck, hni, hf, hn1⟩ := Cond.sameMethod_found hsame
  cases hn.symm.trans hn1
  obtain ⟨mk, methM, hnamed, hmethM, -, habM⟩ := Cond.instanceMethod_spec hinst
  obtain ⟨c2, r2, m2, q1, q2, q3, q4, kP, hkP, hkPi⟩ := Cond.selects_spec hsel
  cases hcls.symm.trans q1
  cases hf.symm.trans q2
  cases hnamed.symm.trans q3
  have hselP : selectMethod e.platform s.vm cellB.cls r0 = .method mk := by rw [Launch.admits_selectMethod X.admits]; exact q4
  obtain ⟨vm₁, X₁, hstep₁⟩ := X.invokevirtualUp hexec hown hlink hsame howner hn hrm hstR (a := b) (cell := cellB) hcell
    (fun z h => by rw [h] at hobj; cases hobj) hselP hmethM habM hkP hkPi (g := g) hg (argsL := argsL) (rest := rest) (hlen _ hsigR) hstack hdg
  rcases hK m meth c ⟨T.setVm vm₁, locs, cells, slots⟩ { g with stack := rest } (.invokevirtual index) mk (Value.ref b :: argsL).toArray X₁ hg hsize hdg hW (X₁.named hnamed) (hpre vm₁ X₁.warmed) with ⟨v, B, X', hpost, hsteps⟩ | ⟨q, B, X', hpost, hsteps⟩
  · exact Or.inl ⟨v, vm₁, B, X₁.warmed, X', hpost, fun target h => hstep₁ _ fun acts => by rw [doInvoke_state]; exact hsteps.trans h⟩
  · exact Or.inr ⟨q, vm₁, B, X₁.warmed, X', hpost, hstep₁ _ fun acts => by rw [doInvoke_state]; exact hsteps⟩
theorem vx_runU {x y : MethodName} {bytes cc : ByteArray} {maxL nL mc ms n index : Nat} {ret : Option FieldType} {ws : List Cond} {rm : Room} {Pc : Array Value → State → Prop} {Qc : Array Value → State → Outcome → State → Prop} {XC : String → State → State → Prop} {free : Addr → Prop} {Ts : List Cond} {own C owner : String} {b : Addr} {As rest : List Value} {g : JFrame}
    (S : CallFix p m c cc nL s args Ts own) (hM : vx_Met l y ws rm Pc Qc XC mc ms free) (cw : va_CU R s args own C owner index x y bytes maxL ret ws rm mc ms n) (hp : PreV s H C b Pc As)
    (hg : g.method = m) (hn : As.length = n) (hsize : g.locals.size = nL) (hstack : g.stack = As.reverse ++ .ref b :: rest) (hW : 2 * g.monitorRoom + (rest.map fun v => v.category).sum ≤ 8) (hdg : decode cc g.pc = .ok (.invokevirtual index, 3)) (hf : cells + mc ≤ R.cells ∧ slots + ms ≤ R.slots) :
    vx_Run p l e R s m args below meth c H locs cells slots mc ms g rest (Qc (Value.ref b :: As).toArray) XC free := by
  obtain ⟨hrc, hrs, hfr, hlo, hws, hcw⟩ := cw.back
  have hini := cw.init
  have hK : vx_Back l R p e below s args y 3 8 (PreOf R mc ms Pc) (PostOf Qc mc ms free) (vx_Post XC mc ms free) := vx_back (bytes := bytes) (maxL := maxL) (ret := ret) hM hp.1 hrc hrs hfr hlo hws hcw (fun a' U hW => word_at hW (Or.inl (by first | rfl | simp [Cond.onTables, Cond.keeps, Cond.steady])) hini)
  obtain ⟨hx, hb, hml, ho, -⟩ := S
  obtain ⟨-, ⟨cellB, hcB, hoB, hclB⟩, hPc⟩ := hp
  intro T hT X
  rcases vx_callVU X hx (C := C) (owner := owner) (bytes := bytes) (maxL := maxL) (ret := ret) ho cw.link cw.same cw.decl cw.notMH cw.sel cw.inst cw.code hK (by rw [hT]; exact hcB) hoB hclB hg (hsize.trans hml.symm) (argsL := As) (rest := rest) (fun sig h => hn.trans (cw.len sig h)) hstack hW (by rw [hb]; exact hdg)
    (fun vm₁ hW₁ => ⟨hf.1, hf.2, hPc (T.setVm vm₁) hT hW₁⟩) with ⟨v, vm₁, ⟨U', l2, c2, s2⟩, hW₁, X', ⟨g', mk, t, L, e1, e2, hq, h1, hL, h2, h3⟩, st⟩ | ⟨q, vm₁, ⟨U', l2, c2, s2⟩, hW₁, X', ⟨g', mk, t, L, E, ce, e1, e2, hq, hce, hcv, hcl, h1, hL, h2, h3⟩, st⟩
  · dsimp only [Pt.U, Pt.locs, Pt.cells, Pt.slots] at X' e1 e2 h1 h2 h3 st
    subst h1; subst h2; subst h3
    exact Or.inl ⟨v, (T.setVm vm₁).calling g' mk (Value.ref b :: As).toArray, t, U', L, hT, X', hL, e1, e2, hq, st⟩
  · dsimp only [Pt.U, Pt.locs, Pt.cells, Pt.slots] at X' e1 e2 h1 h2 h3 st hcl
    subst h1; subst h2; subst h3
    exact Or.inr ⟨q, (T.setVm vm₁).calling g' mk (Value.ref b :: As).toArray, t, U', L, E, ce, hT, X', hL, e1, e2, hq, hce, hcv, vx_cls hW₁ hcl, st⟩
end
/-! ===== END ===== -/
/-! ===== BEGIN super.m(..) that may throw (follows va_callSU, va_runSU) ===== -/
section
variable {p : Program} {l : Launch} {e : Env} {R : Room} {s : State} {m : MethodId} {args : Array Value} {below : List Frame} {meth : Method} {c : Code} {H : Heap} {locs : List Loc} {cells slots : Nat}
theorem vx_callSU {T : State} {locs : List Loc} {cells slots : Nat} (X : Stand p l e R s m args below meth c T locs cells slots) (hexec : p.tables.exec = Jvm.exec) {own : String} {index : Nat} {y : MethodName} {bytes : ByteArray} {maxL : Nat} {ret : Option FieldType}
    (hown : s.vm.findClass own = some m.cls) (hlink : (Cond.methodLink own index y).before args s = true) (hsame : (Cond.sameMethod y.cls y.cls y.name y.desc).before args s = true) (hsup : (Cond.superclass own y.cls).before args s = true)
    (hinst : (Cond.instanceMethod y).before args s = true) (hcode : (Cond.code y bytes maxL ret).before args s = true) (hno : y.name ≠ "<init>")
    {W : Nat} {Pre : Pt → Array Value → Prop} {Post : Pt → Array Value → Option Value → Pt → Prop} {PostX : Pt → Array Value → Addr → Pt → Prop} (hK : vx_Back l R p e below s args y 3 W Pre Post PostX)
    {b : Addr} {cellB : Cell} {kB : Class} (hcell : T.heap[b]? = some cellB) (hobj : cellB.vm.isStatics = false) (hkB : s.vm.classes[cellB.cls]? = some kB)
    {g : JFrame} (hg : g.method = m) (hsize : g.locals.size = c.maxLocals) {argsL rest : List Value} (hlen : ∀ sig, parseMethodDescriptor y.desc = some sig → argsL.length = sig.parameters.length)
    (hstack : g.stack = argsL.reverse ++ .ref b :: rest) (hW : 2 * g.monitorRoom + (rest.map fun v => v.category).sum ≤ W) (hdg : decode c.code g.pc = .ok (.invokespecial index, 3))
    (hpre : ∀ vm₁, s.WarmedH vm₁ → Pre ⟨T.setVm vm₁, locs, cells, slots⟩ (Value.ref b :: argsL).toArray) :
    (∃ (v : Option Value) (vm₁ : Vm) (B : Pt), s.WarmedH vm₁ ∧ Stand p l e R s m args below meth c B.U B.locs B.cells B.slots ∧ Post ⟨T.setVm vm₁, locs, cells, slots⟩ (Value.ref b :: argsL).toArray v B ∧
      ∀ target, Steps p.tables e below (B.U.setTop { g with pc := g.pc + 3, stack := v.toList ++ rest }) target → Steps p.tables e below (T.setTop g) target) ∨
    (∃ (q : Addr) (vm₁ : Vm) (B : Pt), s.WarmedH vm₁ ∧ Stand p l e R s m args below meth c B.U B.locs B.cells B.slots ∧ PostX ⟨T.setVm vm₁, locs, cells, slots⟩ (Value.ref b :: argsL).toArray q B ∧
      Steps p.tables e below (T.setTop g) ((B.U.setTop { g with stack := rest }).pushFrame (.throwing q))) := by
  obtain ⟨mk, methM, hnamed, hmethM, hstM, habM⟩ := Cond.instanceMethod_spec hinst
  obtain ⟨methM', cM, hmethM', -, -, -, -, -, -, hsigM⟩ := Cond.code_spec hnamed hcode
  cases hmethM.symm.trans hmethM'
  obtain ⟨ps, dk, kp, hps, hdk, hkp, hsuper, -, -, hnid⟩ := Cond.superclass_spec hown hsup
  have hn : s.methodNamed? ⟨y.cls, y.name, y.desc⟩ = some mk := hnamed
  have hpm : ps = mk.cls := Option.some.inj (hps.symm.trans (findClass_of_methodNamed hnamed))
  have hsub : s.vm.isSubclass ps mk.cls = true := by rw [hpm]; simp [Vm.isSubclass, Vm.isSubclassAux]
  obtain ⟨vm₁, X₁, hstep₁⟩ := X.invokespecialUp hexec hown hlink hsame hn hmethM hstM habM hno hdk hnid hps hsuper hsub (a := b) (cell := cellB) hcell
    (fun z h => by rw [h] at hobj; cases hobj) hkB (g := g) hg (argsL := argsL) (rest := rest) (hlen _ hsigM) hstack hdg
  rcases hK m meth c ⟨T.setVm vm₁, locs, cells, slots⟩ { g with stack := rest } (.invokespecial index) mk (Value.ref b :: argsL).toArray X₁ hg hsize hdg hW (X₁.named hnamed) (hpre vm₁ X₁.warmed) with ⟨v, B, X', hpost, hsteps⟩ | ⟨q, B, X', hpost, hsteps⟩
  · exact Or.inl ⟨v, vm₁, B, X₁.warmed, X', hpost, fun target h => hstep₁ _ (by rw [doInvoke_state]; exact hsteps.trans h)⟩
  · exact Or.inr ⟨q, vm₁, B, X₁.warmed, X', hpost, hstep₁ _ (by rw [doInvoke_state]; exact hsteps)⟩
theorem vx_runSU {y : MethodName} {bytes cc : ByteArray} {maxL nL mc ms n index : Nat} {ret : Option FieldType} {ws : List Cond} {rm : Room} {Pc : Array Value → State → Prop} {Qc : Array Value → State → Outcome → State → Prop} {XC : String → State → State → Prop} {free : Addr → Prop} {Ts : List Cond} {own C : String} {cC : ClassId} {b : Addr} {As rest : List Value} {g : JFrame}
    (hat : ClassAt s C cC) (S : CallFix p m c cc nL s args Ts own) (hM : vx_Met l y ws rm Pc Qc XC mc ms free) (cw : va_CS R s args own index y bytes maxL ret ws rm mc ms n) (hp : PreV s H C b Pc As)
    (hg : g.method = m) (hn : As.length = n) (hsize : g.locals.size = nL) (hstack : g.stack = As.reverse ++ .ref b :: rest) (hW : 2 * g.monitorRoom + (rest.map fun v => v.category).sum ≤ 8) (hdg : decode cc g.pc = .ok (.invokespecial index, 3)) (hf : cells + mc ≤ R.cells ∧ slots + ms ≤ R.slots) :
    vx_Run p l e R s m args below meth c H locs cells slots mc ms g rest (Qc (Value.ref b :: As).toArray) XC free := by
  obtain ⟨⟨hrc, hrs, hfr, hlo, hws, hcw⟩, hl1, hl2, hl3, hl4, hini, hcode, hno, hlen⟩ := cw
  have hK : vx_Back l R p e below s args y 3 8 (PreOf R mc ms Pc) (PostOf Qc mc ms free) (vx_Post XC mc ms free) := vx_back (bytes := bytes) (maxL := maxL) (ret := ret) hM hp.1 hrc hrs hfr hlo hws hcw (fun a' U hW => word_at hW (Or.inl (by first | rfl | simp [Cond.onTables, Cond.keeps, Cond.steady])) hini)
  obtain ⟨hx, hb, hml, ho, -⟩ := S
  obtain ⟨-, ⟨cellB, hcB, hoB, hclB⟩, hPc⟩ := hp
  obtain ⟨hfc, kB, hkB, -⟩ := hat
  cases hfc.symm.trans hclB
  intro T hT X
  rcases vx_callSU X hx (bytes := bytes) (maxL := maxL) (ret := ret) ho hl1 hl2 hl3 hl4 hcode hno hK (by rw [hT]; exact hcB) hoB hkB hg (hsize.trans hml.symm) (argsL := As) (rest := rest) (fun sig h => hn.trans (hlen sig h)) hstack hW (by rw [hb]; exact hdg)
    (fun vm₁ hW₁ => ⟨hf.1, hf.2, hPc (T.setVm vm₁) hT hW₁⟩) with ⟨v, vm₁, ⟨U', l2, c2, s2⟩, hW₁, X', ⟨g', mk, t, L, e1, e2, hq, h1, hL, h2, h3⟩, st⟩ | ⟨q, vm₁, ⟨U', l2, c2, s2⟩, hW₁, X', ⟨g', mk, t, L, E, ce, e1, e2, hq, hce, hcv, hcl, h1, hL, h2, h3⟩, st⟩
  · dsimp only [Pt.U, Pt.locs, Pt.cells, Pt.slots] at X' e1 e2 h1 h2 h3 st
    subst h1; subst h2; subst h3
    exact Or.inl ⟨v, (T.setVm vm₁).calling g' mk (Value.ref b :: As).toArray, t, U', L, hT, X', hL, e1, e2, hq, st⟩
  · dsimp only [Pt.U, Pt.locs, Pt.cells, Pt.slots] at X' e1 e2 h1 h2 h3 st hcl
    subst h1; subst h2; subst h3
    exact Or.inr ⟨q, (T.setVm vm₁).calling g' mk (Value.ref b :: As).toArray, t, U', L, E, ce, hT, X', hL, e1, e2, hq, hce, hcv, vx_cls hW₁ hcl, st⟩
end
/-! ===== END ===== -/
/-! ===== BEGIN a private method of a nest mate that may throw (follows va_callVN, va_callSN, va_runVN, va_runSN) ===== -/
section
variable {p : Program} {l : Launch} {e : Env} {R : Room} {s : State} {m : MethodId} {args : Array Value} {below : List Frame} {meth : Method} {c : Code} {H : Heap} {locs : List Loc} {cells slots : Nat}
variable {T : State}
theorem vx_callVN (X : Stand p l e R s m args below meth c T locs cells slots) (hexec : p.tables.exec = Jvm.exec) {own C : String} {index : Nat} {host : String} {y : MethodName} {bytes : ByteArray} {maxL : Nat} {ret : Option FieldType}
    (hown : s.vm.findClass own = some m.cls) (hlink : (Cond.methodLinkNest own index y host).before args s = true) (hinst : (Cond.instanceMethod y).before args s = true) (hsel : (Cond.selects C y y).before args s = true)
    (hcode : (Cond.code y bytes maxL ret).before args s = true) (hy : y.cls ≠ "java/lang/invoke/MethodHandle" ∧ y.cls ≠ "java/lang/invoke/VarHandle")
    {W : Nat} {Pre : Pt → Array Value → Prop} {Post : Pt → Array Value → Option Value → Pt → Prop} {PostX : Pt → Array Value → Addr → Pt → Prop} (hK : vx_Back l R p e below s args y 3 W Pre Post PostX)
    {b : Addr} {cellB : Cell} (hcell : T.heap[b]? = some cellB) (hobj : cellB.vm.isStatics = false) (hcls : s.vm.findClass C = some cellB.cls)
    {g : JFrame} (hg : g.method = m) (hsize : g.locals.size = c.maxLocals) {argsL rest : List Value} (hlen : ∀ sig, parseMethodDescriptor y.desc = some sig → argsL.length = sig.parameters.length)
    (hstack : g.stack = argsL.reverse ++ .ref b :: rest) (hW : 2 * g.monitorRoom + (rest.map fun v => v.category).sum ≤ W) (hdg : decode c.code g.pc = .ok (.invokevirtual index, 3))
    (hpre : ∀ vm₁, s.WarmedH vm₁ → Pre ⟨T.setVm vm₁, locs, cells, slots⟩ (Value.ref b :: argsL).toArray) :
    (∃ (v : Option Value) (vm₁ : Vm) (B : Pt), s.WarmedH vm₁ ∧ Stand p l e R s m args below meth c B.U B.locs B.cells B.slots ∧ Post ⟨T.setVm vm₁, locs, cells, slots⟩ (Value.ref b :: argsL).toArray v B ∧
      ∀ target, Steps p.tables e below (B.U.setTop { g with pc := g.pc + 3, stack := v.toList ++ rest }) target → Steps p.tables e below (T.setTop g) target) ∨
    (∃ (q : Addr) (vm₁ : Vm) (B : Pt), s.WarmedH vm₁ ∧ Stand p l e R s m args below meth c B.U B.locs B.cells B.slots ∧ PostX ⟨T.setVm vm₁, locs, cells, slots⟩ (Value.ref b :: argsL).toArray q B ∧
      Steps p.tables e below (T.setTop g) ((B.U.setTop { g with stack := rest }).pushFrame (.throwing q))) := by
  obtain ⟨mk, methM, hnamed, hmethM, hstM, habM⟩ := Cond.instanceMethod_spec hinst
  obtain ⟨methM', cM, hmethM', -, -, -, -, -, -, hsigM⟩ := Cond.code_spec hnamed hcode
  cases hmethM.symm.trans hmethM'
  obtain ⟨c2, r2, m2, q1, q2, q3, q4, kP, hkP, hkPi⟩ := Cond.selects_spec hsel
  cases hcls.symm.trans q1
  cases (State.methodFound?_of_named hnamed hy).symm.trans q2
  cases hnamed.symm.trans q3
  have hselP : selectMethod e.platform s.vm cellB.cls mk = .method mk := by rw [Launch.admits_selectMethod X.admits]; exact q4
  obtain ⟨vm₁, X₁, hstep₁⟩ := X.invokevirtualNest hexec hown hlink hnamed hmethM hstM hkP hkPi hy (a := b) (cell := cellB) hcell
    (fun z h => by rw [h] at hobj; cases hobj) hselP hmethM habM hkP hkPi (g := g) hg (argsL := argsL) (rest := rest) (hlen _ hsigM) hstack hdg
  rcases hK m meth c ⟨T.setVm vm₁, locs, cells, slots⟩ { g with stack := rest } (.invokevirtual index) mk (Value.ref b :: argsL).toArray X₁ hg hsize hdg hW (X₁.named hnamed) (hpre vm₁ X₁.warmed) with ⟨v, B, X', hpost, hsteps⟩ | ⟨q, B, X', hpost, hsteps⟩
  · exact Or.inl ⟨v, vm₁, B, X₁.warmed, X', hpost, fun target h => hstep₁ _ fun acts => by rw [doInvoke_state]; exact hsteps.trans h⟩
  · exact Or.inr ⟨q, vm₁, B, X₁.warmed, X', hpost, hstep₁ _ fun acts => by rw [doInvoke_state]; exact hsteps⟩
theorem vx_callSN (X : Stand p l e R s m args below meth c T locs cells slots) (hexec : p.tables.exec = Jvm.exec) {own : String} {index : Nat} {host : String} {y : MethodName} {bytes : ByteArray} {maxL : Nat} {ret : Option FieldType}
    (hown : s.vm.findClass own = some m.cls) (hlink : (Cond.methodLinkNest own index y host).before args s = true) (hstat : (Cond.static y).before args s = true) (hinit : (Cond.initialized y.cls).before args s = true)
    (hcode : (Cond.code y bytes maxL ret).before args s = true) (hy : y.cls ≠ "java/lang/invoke/MethodHandle" ∧ y.cls ≠ "java/lang/invoke/VarHandle")
    {W : Nat} {Pre : Pt → Array Value → Prop} {Post : Pt → Array Value → Option Value → Pt → Prop} {PostX : Pt → Array Value → Addr → Pt → Prop} (hK : vx_Back l R p e below s args y 3 W Pre Post PostX)
    {g : JFrame} (hg : g.method = m) (hsize : g.locals.size = c.maxLocals) {argsL rest : List Value} (hlen : ∀ sig, parseMethodDescriptor y.desc = some sig → argsL.length = sig.parameters.length)
    (hstack : g.stack = argsL.reverse ++ rest) (hW : 2 * g.monitorRoom + (rest.map fun v => v.category).sum ≤ W) (hdg : decode c.code g.pc = .ok (.invokestatic index, 3))
    (hpre : ∀ vm₁, s.WarmedH vm₁ → Pre ⟨T.setVm vm₁, locs, cells, slots⟩ argsL.toArray) :
    (∃ (v : Option Value) (vm₁ : Vm) (B : Pt), s.WarmedH vm₁ ∧ Stand p l e R s m args below meth c B.U B.locs B.cells B.slots ∧ Post ⟨T.setVm vm₁, locs, cells, slots⟩ argsL.toArray v B ∧
      ∀ target, Steps p.tables e below (B.U.setTop { g with pc := g.pc + 3, stack := v.toList ++ rest }) target → Steps p.tables e below (T.setTop g) target) ∨
    (∃ (q : Addr) (vm₁ : Vm) (B : Pt), s.WarmedH vm₁ ∧ Stand p l e R s m args below meth c B.U B.locs B.cells B.slots ∧ PostX ⟨T.setVm vm₁, locs, cells, slots⟩ argsL.toArray q B ∧
      Steps p.tables e below (T.setTop g) ((B.U.setTop { g with stack := rest }).pushFrame (.throwing q))) := by
  obtain ⟨mk, hnamed⟩ := Cond.code_named hcode
  obtain ⟨methM, cM, hmethM, -, -, -, -, -, -, hsigM⟩ := Cond.code_spec hnamed hcode
  have hstatic : methM.isStatic = true := Cond.static_spec hnamed hmethM hstat
  obtain ⟨kP, hkP, -⟩ := className_of_methodNamed hnamed
  have hinitP : kP.init = .initialized := Cond.initialized_spec (findClass_of_methodNamed hnamed) hkP hinit
  obtain ⟨vm₁, X₁, hstep₁⟩ := X.invokestaticNest hexec hown hlink hnamed hmethM hstatic hkP hinitP hy (g := g) hg (argsL := argsL) (rest := rest) (hlen _ hsigM) hstack hdg
  rcases hK m meth c ⟨T.setVm vm₁, locs, cells, slots⟩ { g with stack := rest } (.invokestatic index) mk argsL.toArray X₁ hg hsize hdg hW (X₁.named hnamed) (hpre vm₁ X₁.warmed) with ⟨v, B, X', hpost, hsteps⟩ | ⟨q, B, X', hpost, hsteps⟩
  · exact Or.inl ⟨v, vm₁, B, X₁.warmed, X', hpost, fun target h => hstep₁ _ fun acts => by rw [doInvoke_state]; exact hsteps.trans h⟩
  · exact Or.inr ⟨q, vm₁, B, X₁.warmed, X', hpost, hstep₁ _ fun acts => by rw [doInvoke_state]; exact hsteps⟩
theorem vx_runVN {y : MethodName} {bytes cc : ByteArray} {maxL nL mc ms n index : Nat} {ret : Option FieldType} {ws : List Cond} {rm : Room} {Pc : Array Value → State → Prop} {Qc : Array Value → State → Outcome → State → Prop} {XC : String → State → State → Prop} {free : Addr → Prop} {Ts : List Cond} {own C host : String} {b : Addr} {As rest : List Value} {g : JFrame}
    (S : CallFix p m c cc nL s args Ts own) (hM : vx_Met l y ws rm Pc Qc XC mc ms free) (cw : va_CN R s args own index y host bytes maxL ret ws rm mc ms n ∧ (Cond.instanceMethod y).before args s = true ∧ (Cond.selects C y y).before args s = true) (hp : PreV s H C b Pc As)
    (hg : g.method = m) (hn : As.length = n) (hsize : g.locals.size = nL) (hstack : g.stack = As.reverse ++ .ref b :: rest) (hW : 2 * g.monitorRoom + (rest.map fun v => v.category).sum ≤ 8) (hdg : decode cc g.pc = .ok (.invokevirtual index, 3)) (hf : cells + mc ≤ R.cells ∧ slots + ms ≤ R.slots) :
    vx_Run p l e R s m args below meth c H locs cells slots mc ms g rest (Qc (Value.ref b :: As).toArray) XC free := by
  obtain ⟨⟨⟨hrc, hrs, hfr, hlo, hws, hcw⟩, hcode, hini, hy, hlen, hl⟩, hx1, hx2⟩ := cw
  have hK : vx_Back l R p e below s args y 3 8 (PreOf R mc ms Pc) (PostOf Qc mc ms free) (vx_Post XC mc ms free) := vx_back (bytes := bytes) (maxL := maxL) (ret := ret) hM hp.1 hrc hrs hfr hlo hws hcw (fun a' U hW => word_at hW (Or.inl (by first | rfl | simp [Cond.onTables, Cond.keeps, Cond.steady])) hini)
  obtain ⟨hx, hb, hml, ho, -⟩ := S
  obtain ⟨-, ⟨cellB, hcB, hoB, hclB⟩, hPc⟩ := hp
  intro T hT X
  rcases vx_callVN X hx (C := C) (bytes := bytes) (maxL := maxL) (ret := ret) ho hl hx1 hx2 hcode hy hK (by rw [hT]; exact hcB) hoB hclB hg (hsize.trans hml.symm) (argsL := As) (rest := rest) (fun sig h => hn.trans (hlen sig h)) hstack hW (by rw [hb]; exact hdg)
    (fun vm₁ hW₁ => ⟨hf.1, hf.2, hPc (T.setVm vm₁) hT hW₁⟩) with ⟨v, vm₁, ⟨U', l2, c2, s2⟩, hW₁, X', ⟨g', mk, t, L, e1, e2, hq, h1, hL, h2, h3⟩, st⟩ | ⟨q, vm₁, ⟨U', l2, c2, s2⟩, hW₁, X', ⟨g', mk, t, L, E, ce, e1, e2, hq, hce, hcv, hcl, h1, hL, h2, h3⟩, st⟩
  · dsimp only [Pt.U, Pt.locs, Pt.cells, Pt.slots] at X' e1 e2 h1 h2 h3 st
    subst h1; subst h2; subst h3
    exact Or.inl ⟨v, (T.setVm vm₁).calling g' mk (Value.ref b :: As).toArray, t, U', L, hT, X', hL, e1, e2, hq, st⟩
  · dsimp only [Pt.U, Pt.locs, Pt.cells, Pt.slots] at X' e1 e2 h1 h2 h3 st hcl
    subst h1; subst h2; subst h3
    exact Or.inr ⟨q, (T.setVm vm₁).calling g' mk (Value.ref b :: As).toArray, t, U', L, E, ce, hT, X', hL, e1, e2, hq, hce, hcv, vx_cls hW₁ hcl, st⟩
theorem vx_runSN {y : MethodName} {bytes cc : ByteArray} {maxL nL mc ms n index : Nat} {ret : Option FieldType} {ws : List Cond} {rm : Room} {Pc : Array Value → State → Prop} {Qc : Array Value → State → Outcome → State → Prop} {XC : String → State → State → Prop} {free : Addr → Prop} {Ts : List Cond} {own host : String} {As rest : List Value} {g : JFrame}
    (S : CallFix p m c cc nL s args Ts own) (hM : vx_Met l y ws rm Pc Qc XC mc ms free) (cw : va_CN R s args own index y host bytes maxL ret ws rm mc ms n ∧ (Cond.static y).before args s = true ∧ True) (hp : PreS s H Pc As)
    (hg : g.method = m) (hn : As.length = n) (hsize : g.locals.size = nL) (hstack : g.stack = As.reverse ++ rest) (hW : 2 * g.monitorRoom + (rest.map fun v => v.category).sum ≤ 8) (hdg : decode cc g.pc = .ok (.invokestatic index, 3)) (hf : cells + mc ≤ R.cells ∧ slots + ms ≤ R.slots) :
    vx_Run p l e R s m args below meth c H locs cells slots mc ms g rest (Qc As.toArray) XC free := by
  obtain ⟨⟨⟨hrc, hrs, hfr, hlo, hws, hcw⟩, hcode, hini, hy, hlen, hl⟩, hx1, hx2⟩ := cw
  have hK : vx_Back l R p e below s args y 3 8 (PreOf R mc ms Pc) (PostOf Qc mc ms free) (vx_Post XC mc ms free) := vx_back (bytes := bytes) (maxL := maxL) (ret := ret) hM hp.1 hrc hrs hfr hlo hws hcw (fun a' U hW => word_at hW (Or.inl (by first | rfl | simp [Cond.onTables, Cond.keeps, Cond.steady])) hini)
  obtain ⟨hx, hb, hml, ho, -⟩ := S
  have hPc := hp.2
  intro T hT X
  rcases vx_callSN X hx (bytes := bytes) (maxL := maxL) (ret := ret) ho hl hx1 hini hcode hy hK hg (hsize.trans hml.symm) (argsL := As) (rest := rest) (fun sig h => hn.trans (hlen sig h)) hstack hW (by rw [hb]; exact hdg)
    (fun vm₁ hW₁ => ⟨hf.1, hf.2, hPc (T.setVm vm₁) hT hW₁⟩) with ⟨v, vm₁, ⟨U', l2, c2, s2⟩, hW₁, X', ⟨g', mk, t, L, e1, e2, hq, h1, hL, h2, h3⟩, st⟩ | ⟨q, vm₁, ⟨U', l2, c2, s2⟩, hW₁, X', ⟨g', mk, t, L, E, ce, e1, e2, hq, hce, hcv, hcl, h1, hL, h2, h3⟩, st⟩
  · dsimp only [Pt.U, Pt.locs, Pt.cells, Pt.slots] at X' e1 e2 h1 h2 h3 st
    subst h1; subst h2; subst h3
    exact Or.inl ⟨v, (T.setVm vm₁).calling g' mk As.toArray, t, U', L, hT, X', hL, e1, e2, hq, st⟩
  · dsimp only [Pt.U, Pt.locs, Pt.cells, Pt.slots] at X' e1 e2 h1 h2 h3 st hcl
    subst h1; subst h2; subst h3
    exact Or.inr ⟨q, (T.setVm vm₁).calling g' mk As.toArray, t, U', L, E, ce, hT, X', hL, e1, e2, hq, hce, hcv, vx_cls hW₁ hcl, st⟩
end
/-! ===== END ===== -/
/-! ===== BEGIN calls by an interface of methods that may throw (vx_callIF, vx_runF follow va_callIF, va_runF of this kit) ===== -/
section
variable {p : Program} {l : Launch} {e : Env} {R : Room} {s : State} {m : MethodId} {args : Array Value} {below : List Frame} {meth : Method} {c : Code} {H : Heap} {locs : List Loc} {cells slots : Nat} {Q : State → Prop}
variable {mc ms : Nat} {free : Addr → Prop} {A0 A1 : Nat → Prop} {H0 : Heap} {a : Array Value} {pc : Nat} {ls : Array Slot} {st0 rest : List Value}
def vx_Run5 (p : Program) (l : Launch) (e : Env) (R : Room) (s : State) (m : MethodId) (args : Array Value) (below : List Frame) (meth : Method) (c : Code) (H : Heap) (locs : List Loc) (cells slots mc ms : Nat) (g : JFrame) (rest : List Value) (Qa : State → Outcome → State → Prop) (XC : String → State → State → Prop) (free : Addr → Prop) : Prop :=
  ∀ T : State, T.heap = H → Stand p l e R s m args below meth c T locs cells slots →
    (∃ (v : Option Value) (st₀ t T' : State) (L : List Loc), st₀.heap = H ∧ Stand p l e R s m args below meth c T' (locs ++ L) (cells + mc) (slots + ms) ∧ (∀ q ∈ L, free q.base) ∧ T'.heap = t.heap ∧ T'.vm = t.vm ∧ Qa st₀ (.returned v) t ∧
      Goes p e below T g T' { g with pc := g.pc + 5, stack := v.toList ++ rest }) ∨
    (∃ (q : Addr) (st₀ t T' : State) (L : List Loc) (E : String) (ce : Cell), st₀.heap = H ∧ Stand p l e R s m args below meth c T' (locs ++ L) (cells + mc) (slots + ms) ∧ (∀ z ∈ L, free z.base) ∧ T'.heap = t.heap ∧ T'.vm = t.vm ∧ XC E st₀ t ∧ t.heap[q]? = some ce ∧ ce.vm = .none ∧ s.vm.findClass E = some ce.cls ∧
      Steps p.tables e below (T.setTop g) ((T'.setTop { g with stack := rest }).pushFrame (.throwing q)))
theorem vx_callIF {T : State} (X : Stand p l e R s m args below meth c T locs cells slots) (hexec : p.tables.exec = Jvm.exec) {own C : String} {index count : Nat} {x y : MethodName} {bytes : ByteArray} {maxL : Nat} {ret : Option FieldType}
    (hown : s.vm.findClass own = some m.cls) (hlink : (Cond.methodLink own index x).before args s = true) (hdecl : (Cond.declares x).before args s = true) (hface : (Cond.interfaceMethod x.cls x.cls x.name x.desc).before args s = true)
    (hsel : (Cond.selects C x y).before args s = true) (hinst : (Cond.instanceMethod y).before args s = true) (hpub : (Cond.publicMethod y).before args s = true) (hunh : (Cond.unhidden C x.name x.desc).before args s = true)
    (hcast : (Cond.castable C x.cls).before args s = true) (hcode : (Cond.code y bytes maxL ret).before args s = true) (hx : x.cls ≠ "java/lang/invoke/MethodHandle" ∧ x.cls ≠ "java/lang/invoke/VarHandle")
    {W9 : Nat} {Pre : Pt → Array Value → Prop} {Post : Pt → Array Value → Option Value → Pt → Prop} {PostX : Pt → Array Value → Addr → Pt → Prop} (hK : vx_Back l R p e below s args y 5 W9 Pre Post PostX)
    {b : Addr} {cellB : Cell} {kB : Class} (hcell : T.heap[b]? = some cellB) (hobj : cellB.vm.isStatics = false) (hcls : s.vm.findClass C = some cellB.cls) (hkB : s.vm.classes[cellB.cls]? = some kB)
    {g : JFrame} (hg : g.method = m) (hsize : g.locals.size = c.maxLocals) {argsL rest : List Value} (hlen : ∀ sig, parseMethodDescriptor x.desc = some sig → argsL.length = sig.parameters.length)
    (hstack : g.stack = argsL.reverse ++ .ref b :: rest) (hW : 2 * g.monitorRoom + (rest.map fun v => v.category).sum ≤ W9) (hdg : decode c.code g.pc = .ok (.invokeinterface index count, 5))
    (hpre : ∀ vm₁, s.WarmedH vm₁ → Pre ⟨T.setVm vm₁, locs, cells, slots⟩ (Value.ref b :: argsL).toArray) :
    (∃ (v : Option Value) (vm₁ : Vm) (B : Pt), s.WarmedH vm₁ ∧ Stand p l e R s m args below meth c B.U B.locs B.cells B.slots ∧ Post ⟨T.setVm vm₁, locs, cells, slots⟩ (Value.ref b :: argsL).toArray v B ∧
      ∀ target, Steps p.tables e below (B.U.setTop { g with pc := g.pc + 5, stack := v.toList ++ rest }) target → Steps p.tables e below (T.setTop g) target) ∨
    (∃ (q : Addr) (vm₁ : Vm) (B : Pt), s.WarmedH vm₁ ∧ Stand p l e R s m args below meth c B.U B.locs B.cells B.slots ∧ PostX ⟨T.setVm vm₁, locs, cells, slots⟩ (Value.ref b :: argsL).toArray q B ∧
      Steps p.tables e below (T.setTop g) ((B.U.setTop { g with stack := rest }).pushFrame (.throwing q))) := by
  obtain ⟨r0, r, hn, hrm, hstR, hsigR⟩ := Cond.declares_spec hdecl
  obtain ⟨cL, kL, r1, hcL, hkL, hiL, hfoundL, hn1⟩ := Cond.interfaceMethod_spec hface
  cases hn.symm.trans hn1
  have hr0cls : r0.cls = cL := Option.some.inj ((findClass_of_methodNamed hn).symm.trans hcL)
  obtain ⟨hnameR, hdescR⟩ := name_of_methodNamed hn hrm
  obtain ⟨mk, methM, hnamed, hmethM, -, habM⟩ := Cond.instanceMethod_spec hinst
  obtain ⟨c2, r2, m2, q1, q2, q3, q4, -⟩ := Cond.selects_spec hsel
  cases hcls.symm.trans q1
  cases hfoundL.symm.trans q2
  cases hnamed.symm.trans q3
  have hselP : selectMethod e.platform s.vm cellB.cls r0 = .method mk := by rw [Launch.admits_selectMethod X.admits]; exact q4
  have hpubM : hasFlag methM.accessFlags Acc.public_ = true := Cond.publicMethod_spec hnamed hmethM hpub
  have hway : ((cellB.cls :: s.vm.superclasses cellB.cls).any fun k => (declaredIn s.vm r.name r.desc k).any fun (_, z) => z.isPrivate || z.isStatic) = false := by
    rw [hnameR, hdescR]; exact Cond.unhidden_spec hcls hunh
  obtain ⟨c3, t3, w1, w2, w3⟩ := Cond.castable_spec hcast
  cases hcls.symm.trans w1
  cases hcL.symm.trans w2
  obtain ⟨vm₁, X₁, hstep₁⟩ := X.invokeinterface hexec hown hlink hn hrm hstR (by rw [hr0cls]; exact hkL) hiL hx (a := b) (cell := cellB) (kcell := kB) hcell
    (fun z h => by rw [h] at hobj; cases hobj) hkB (by rw [hr0cls]; exact w3) hselP hmethM hway hpubM habM (g := g) hg (argsL := argsL) (rest := rest) (hlen _ hsigR) hstack hdg
  rcases hK m meth c ⟨T.setVm vm₁, locs, cells, slots⟩ { g with stack := rest } (.invokeinterface index count) mk (Value.ref b :: argsL).toArray X₁ hg hsize hdg hW (X₁.named hnamed) (hpre vm₁ X₁.warmed) with ⟨v, B, X', hpost, hsteps⟩ | ⟨q, B, X', hpost, hsteps⟩
  · exact Or.inl ⟨v, vm₁, B, X₁.warmed, X', hpost, fun target h => hstep₁ _ fun acts => by rw [doInvoke_state]; exact hsteps.trans h⟩
  · exact Or.inr ⟨q, vm₁, B, X₁.warmed, X', hpost, hstep₁ _ fun acts => by rw [doInvoke_state]; exact hsteps⟩
theorem vx_runF {x y : MethodName} {bytes cc : ByteArray} {maxL nL mc ms n index count : Nat} {ret : Option FieldType} {ws : List Cond} {rm : Room} {Pc : Array Value → State → Prop} {Qc : Array Value → State → Outcome → State → Prop} {XC : String → State → State → Prop} {free : Addr → Prop} {Ts : List Cond} {own C : String} {cC : ClassId} {b : Addr} {As rest : List Value} {g : JFrame}
    (hat : ClassAt s C cC) (S : CallFix p m c cc nL s args Ts own) (hM : vx_Met l y ws rm Pc Qc XC mc ms free) (cw : va_CI R s args own C index x y bytes maxL ret ws rm mc ms n) (hp : PreV s H C b Pc As)
    (hg : g.method = m) (hn : As.length = n) (hsize : g.locals.size = nL) (hstack : g.stack = As.reverse ++ .ref b :: rest) (hW : 2 * g.monitorRoom + (rest.map fun v => v.category).sum ≤ 8) (hdg : decode cc g.pc = .ok (.invokeinterface index count, 5)) (hf : cells + mc ≤ R.cells ∧ slots + ms ≤ R.slots) :
    vx_Run5 p l e R s m args below meth c H locs cells slots mc ms g rest (Qc (Value.ref b :: As).toArray) XC free := by
  obtain ⟨hrc, hrs, hfr, hlo, hws, hcw⟩ := cw.back
  have hini := cw.init
  have hK : vx_Back l R p e below s args y 5 8 (PreOf R mc ms Pc) (PostOf Qc mc ms free) (vx_Post XC mc ms free) := vx_back (bytes := bytes) (maxL := maxL) (ret := ret) hM hp.1 hrc hrs hfr hlo hws hcw (fun a' U hW => word_at hW (Or.inl (by first | rfl | simp [Cond.onTables, Cond.keeps, Cond.steady])) hini)
  obtain ⟨hx, hb, hml, ho, -⟩ := S
  obtain ⟨-, ⟨cellB, hcB, hoB, hclB⟩, hPc⟩ := hp
  obtain ⟨hfc, kB, hkB, -⟩ := hat
  cases hfc.symm.trans hclB
  intro T hT X
  rcases vx_callIF X hx (C := C) (bytes := bytes) (maxL := maxL) (ret := ret) ho cw.link cw.decl cw.face cw.sel cw.inst cw.pub cw.unh cw.cast cw.code cw.notMH hK (by rw [hT]; exact hcB) hoB hclB hkB hg (hsize.trans hml.symm) (argsL := As) (rest := rest) (fun sig h => hn.trans (cw.len sig h)) hstack hW (by rw [hb]; exact hdg)
    (fun vm₁ hW₁ => ⟨hf.1, hf.2, hPc (T.setVm vm₁) hT hW₁⟩) with ⟨v, vm₁, ⟨U', l2, c2, s2⟩, hW₁, X', ⟨g', mk, t, L, e1, e2, hq, h1, hL, h2, h3⟩, st⟩ | ⟨q, vm₁, ⟨U', l2, c2, s2⟩, hW₁, X', ⟨g', mk, t, L, E, ce, e1, e2, hq, hce, hcv, hcl, h1, hL, h2, h3⟩, st⟩
  · dsimp only [Pt.U, Pt.locs, Pt.cells, Pt.slots] at X' e1 e2 h1 h2 h3 st
    subst h1; subst h2; subst h3
    exact Or.inl ⟨v, (T.setVm vm₁).calling g' mk (Value.ref b :: As).toArray, t, U', L, hT, X', hL, e1, e2, hq, st⟩
  · dsimp only [Pt.U, Pt.locs, Pt.cells, Pt.slots] at X' e1 e2 h1 h2 h3 st hcl
    subst h1; subst h2; subst h3
    exact Or.inr ⟨q, (T.setVm vm₁).calling g' mk (Value.ref b :: As).toArray, t, U', L, E, ce, hT, X', hL, e1, e2, hq, hce, hcv, vx_cls hW₁ hcl, st⟩
theorem vx_callFv {S SX : Type} {post : S → Prop} {px : SX → Prop} {B : S → State → Prop} {BX : String → SX → State → Prop} {AX : Nat → Prop} (hr : vx_Run5 p l e R s m args below meth c H locs cells slots mc ms (F0 m pc ls st0) rest (va_Qv post B A1 a) (vx_X px BX AX) free) (hS : va_S A0 H0 H locs) (hA : ∀ q, q < H.size → A1 q → A0 q) (hf : ∀ q, free q → A0 q) (hAX : ∀ q, q < H.size → AX q → A0 q)
    (kx : ∀ (E : String) (ce : Cell) (q9 : Addr) (u : SX) (t : State) (H1 : Heap) (locs1 : List Loc), t.heap = H1 → s.vm.Alike t.vm → px u → BX E u t → H.size ≤ H1.size → (∀ q : Nat, q < H.size → ¬ AX q → H1[q]? = H[q]?) → va_S A0 H0 H1 locs1 → H1[q9]? = some ce → ce.vm = .none → s.vm.findClass E = some ce.cls → vx_W p l e R s m args below meth c H1 locs1 (cells + mc) (slots + ms) Q (F0 m pc ls rest) q9)
    (kk : ∀ (u : S) (t : State) (H1 : Heap) (locs1 : List Loc), t.heap = H1 → s.vm.Alike t.vm → post u → B u t → H.size ≤ H1.size → (∀ q : Nat, q < H.size → ¬ A1 q → H1[q]? = H[q]?) → va_S A0 H0 H1 locs1 → W p l e R s m args below meth c H1 locs1 (cells + mc) (slots + ms) Q (F0 m (pc + 5) ls (rest))) : W p l e R s m args below meth c H locs cells slots Q (F0 m pc ls st0) := by
  intro T hT X
  rcases hr T hT X with ⟨v, st₀, t, T', L, h0, X', hL, e1, e2, ⟨⟨u, hv, hp, hb⟩, hF⟩, st⟩ | ⟨q, st₀, t, T', L, E, ce, h0, X', hL, e1, e2, ⟨u, hp, hb, hF⟩, hce, hcv, hcl, st⟩
  · cases hv
    obtain ⟨k1, k2, k3⟩ := vx_keep h0 e1 hS hA hf hL hF
    obtain ⟨t2, a1, b1⟩ := kk u t T'.heap (locs ++ L) e1.symm (by rw [← e2]; exact X'.warmed.alike) hp hb k1 k2 k3 T' rfl X'
    exact ⟨t2, st t2 a1, b1⟩
  · obtain ⟨k1, k2, k3⟩ := vx_keep h0 e1 hS hAX hf hL hF
    obtain ⟨t2, a1, b1⟩ := kx E ce q u t T'.heap (locs ++ L) e1.symm (by rw [← e2]; exact X'.warmed.alike) hp hb k1 k2 k3 (by rw [e1]; exact hce) hcv hcl T' rfl X'
    exact ⟨t2, st.trans a1, b1⟩
theorem vx_callFi {S SX : Type} {post : Int32 → S → Prop} {px : SX → Prop} {B : S → State → Prop} {BX : String → SX → State → Prop} {AX : Nat → Prop} (hr : vx_Run5 p l e R s m args below meth c H locs cells slots mc ms (F0 m pc ls st0) rest (va_Qi post B A1 a) (vx_X px BX AX) free) (hS : va_S A0 H0 H locs) (hA : ∀ q, q < H.size → A1 q → A0 q) (hf : ∀ q, free q → A0 q) (hAX : ∀ q, q < H.size → AX q → A0 q)
    (kx : ∀ (E : String) (ce : Cell) (q9 : Addr) (u : SX) (t : State) (H1 : Heap) (locs1 : List Loc), t.heap = H1 → s.vm.Alike t.vm → px u → BX E u t → H.size ≤ H1.size → (∀ q : Nat, q < H.size → ¬ AX q → H1[q]? = H[q]?) → va_S A0 H0 H1 locs1 → H1[q9]? = some ce → ce.vm = .none → s.vm.findClass E = some ce.cls → vx_W p l e R s m args below meth c H1 locs1 (cells + mc) (slots + ms) Q (F0 m pc ls rest) q9)
    (kk : ∀ (r : Int32) (u : S) (t : State) (H1 : Heap) (locs1 : List Loc), t.heap = H1 → s.vm.Alike t.vm → post r u → B u t → H.size ≤ H1.size → (∀ q : Nat, q < H.size → ¬ A1 q → H1[q]? = H[q]?) → va_S A0 H0 H1 locs1 → W p l e R s m args below meth c H1 locs1 (cells + mc) (slots + ms) Q (F0 m (pc + 5) ls (.int r :: rest))) : W p l e R s m args below meth c H locs cells slots Q (F0 m pc ls st0) := by
  intro T hT X
  rcases hr T hT X with ⟨v, st₀, t, T', L, h0, X', hL, e1, e2, ⟨⟨r, u, hv, hp, hb⟩, hF⟩, st⟩ | ⟨q, st₀, t, T', L, E, ce, h0, X', hL, e1, e2, ⟨u, hp, hb, hF⟩, hce, hcv, hcl, st⟩
  · cases hv
    obtain ⟨k1, k2, k3⟩ := vx_keep h0 e1 hS hA hf hL hF
    obtain ⟨t2, a1, b1⟩ := kk r u t T'.heap (locs ++ L) e1.symm (by rw [← e2]; exact X'.warmed.alike) hp hb k1 k2 k3 T' rfl X'
    exact ⟨t2, st t2 a1, b1⟩
  · obtain ⟨k1, k2, k3⟩ := vx_keep h0 e1 hS hAX hf hL hF
    obtain ⟨t2, a1, b1⟩ := kx E ce q u t T'.heap (locs ++ L) e1.symm (by rw [← e2]; exact X'.warmed.alike) hp hb k1 k2 k3 (by rw [e1]; exact hce) hcv hcl T' rfl X'
    exact ⟨t2, st.trans a1, b1⟩
theorem vx_callFl {S SX : Type} {post : Int64 → S → Prop} {px : SX → Prop} {B : S → State → Prop} {BX : String → SX → State → Prop} {AX : Nat → Prop} (hr : vx_Run5 p l e R s m args below meth c H locs cells slots mc ms (F0 m pc ls st0) rest (va_Ql post B A1 a) (vx_X px BX AX) free) (hS : va_S A0 H0 H locs) (hA : ∀ q, q < H.size → A1 q → A0 q) (hf : ∀ q, free q → A0 q) (hAX : ∀ q, q < H.size → AX q → A0 q)
    (kx : ∀ (E : String) (ce : Cell) (q9 : Addr) (u : SX) (t : State) (H1 : Heap) (locs1 : List Loc), t.heap = H1 → s.vm.Alike t.vm → px u → BX E u t → H.size ≤ H1.size → (∀ q : Nat, q < H.size → ¬ AX q → H1[q]? = H[q]?) → va_S A0 H0 H1 locs1 → H1[q9]? = some ce → ce.vm = .none → s.vm.findClass E = some ce.cls → vx_W p l e R s m args below meth c H1 locs1 (cells + mc) (slots + ms) Q (F0 m pc ls rest) q9)
    (kk : ∀ (r : Int64) (u : S) (t : State) (H1 : Heap) (locs1 : List Loc), t.heap = H1 → s.vm.Alike t.vm → post r u → B u t → H.size ≤ H1.size → (∀ q : Nat, q < H.size → ¬ A1 q → H1[q]? = H[q]?) → va_S A0 H0 H1 locs1 → W p l e R s m args below meth c H1 locs1 (cells + mc) (slots + ms) Q (F0 m (pc + 5) ls (.long r :: rest))) : W p l e R s m args below meth c H locs cells slots Q (F0 m pc ls st0) := by
  intro T hT X
  rcases hr T hT X with ⟨v, st₀, t, T', L, h0, X', hL, e1, e2, ⟨⟨r, u, hv, hp, hb⟩, hF⟩, st⟩ | ⟨q, st₀, t, T', L, E, ce, h0, X', hL, e1, e2, ⟨u, hp, hb, hF⟩, hce, hcv, hcl, st⟩
  · cases hv
    obtain ⟨k1, k2, k3⟩ := vx_keep h0 e1 hS hA hf hL hF
    obtain ⟨t2, a1, b1⟩ := kk r u t T'.heap (locs ++ L) e1.symm (by rw [← e2]; exact X'.warmed.alike) hp hb k1 k2 k3 T' rfl X'
    exact ⟨t2, st t2 a1, b1⟩
  · obtain ⟨k1, k2, k3⟩ := vx_keep h0 e1 hS hAX hf hL hF
    obtain ⟨t2, a1, b1⟩ := kx E ce q u t T'.heap (locs ++ L) e1.symm (by rw [← e2]; exact X'.warmed.alike) hp hb k1 k2 k3 (by rw [e1]; exact hce) hcv hcl T' rfl X'
    exact ⟨t2, st.trans a1, b1⟩
theorem vx_callFf {S SX : Type} {post : UInt32 → S → Prop} {px : SX → Prop} {B : S → State → Prop} {BX : String → SX → State → Prop} {AX : Nat → Prop} (hr : vx_Run5 p l e R s m args below meth c H locs cells slots mc ms (F0 m pc ls st0) rest (va_Qf post B A1 a) (vx_X px BX AX) free) (hS : va_S A0 H0 H locs) (hA : ∀ q, q < H.size → A1 q → A0 q) (hf : ∀ q, free q → A0 q) (hAX : ∀ q, q < H.size → AX q → A0 q)
    (kx : ∀ (E : String) (ce : Cell) (q9 : Addr) (u : SX) (t : State) (H1 : Heap) (locs1 : List Loc), t.heap = H1 → s.vm.Alike t.vm → px u → BX E u t → H.size ≤ H1.size → (∀ q : Nat, q < H.size → ¬ AX q → H1[q]? = H[q]?) → va_S A0 H0 H1 locs1 → H1[q9]? = some ce → ce.vm = .none → s.vm.findClass E = some ce.cls → vx_W p l e R s m args below meth c H1 locs1 (cells + mc) (slots + ms) Q (F0 m pc ls rest) q9)
    (kk : ∀ (r : UInt32) (u : S) (t : State) (H1 : Heap) (locs1 : List Loc), t.heap = H1 → s.vm.Alike t.vm → post r u → B u t → H.size ≤ H1.size → (∀ q : Nat, q < H.size → ¬ A1 q → H1[q]? = H[q]?) → va_S A0 H0 H1 locs1 → W p l e R s m args below meth c H1 locs1 (cells + mc) (slots + ms) Q (F0 m (pc + 5) ls (.float r :: rest))) : W p l e R s m args below meth c H locs cells slots Q (F0 m pc ls st0) := by
  intro T hT X
  rcases hr T hT X with ⟨v, st₀, t, T', L, h0, X', hL, e1, e2, ⟨⟨r, u, hv, hp, hb⟩, hF⟩, st⟩ | ⟨q, st₀, t, T', L, E, ce, h0, X', hL, e1, e2, ⟨u, hp, hb, hF⟩, hce, hcv, hcl, st⟩
  · cases hv
    obtain ⟨k1, k2, k3⟩ := vx_keep h0 e1 hS hA hf hL hF
    obtain ⟨t2, a1, b1⟩ := kk r u t T'.heap (locs ++ L) e1.symm (by rw [← e2]; exact X'.warmed.alike) hp hb k1 k2 k3 T' rfl X'
    exact ⟨t2, st t2 a1, b1⟩
  · obtain ⟨k1, k2, k3⟩ := vx_keep h0 e1 hS hAX hf hL hF
    obtain ⟨t2, a1, b1⟩ := kx E ce q u t T'.heap (locs ++ L) e1.symm (by rw [← e2]; exact X'.warmed.alike) hp hb k1 k2 k3 (by rw [e1]; exact hce) hcv hcl T' rfl X'
    exact ⟨t2, st.trans a1, b1⟩
theorem vx_callFd {S SX : Type} {post : UInt64 → S → Prop} {px : SX → Prop} {B : S → State → Prop} {BX : String → SX → State → Prop} {AX : Nat → Prop} (hr : vx_Run5 p l e R s m args below meth c H locs cells slots mc ms (F0 m pc ls st0) rest (va_Qd post B A1 a) (vx_X px BX AX) free) (hS : va_S A0 H0 H locs) (hA : ∀ q, q < H.size → A1 q → A0 q) (hf : ∀ q, free q → A0 q) (hAX : ∀ q, q < H.size → AX q → A0 q)
    (kx : ∀ (E : String) (ce : Cell) (q9 : Addr) (u : SX) (t : State) (H1 : Heap) (locs1 : List Loc), t.heap = H1 → s.vm.Alike t.vm → px u → BX E u t → H.size ≤ H1.size → (∀ q : Nat, q < H.size → ¬ AX q → H1[q]? = H[q]?) → va_S A0 H0 H1 locs1 → H1[q9]? = some ce → ce.vm = .none → s.vm.findClass E = some ce.cls → vx_W p l e R s m args below meth c H1 locs1 (cells + mc) (slots + ms) Q (F0 m pc ls rest) q9)
    (kk : ∀ (r : UInt64) (u : S) (t : State) (H1 : Heap) (locs1 : List Loc), t.heap = H1 → s.vm.Alike t.vm → post r u → B u t → H.size ≤ H1.size → (∀ q : Nat, q < H.size → ¬ A1 q → H1[q]? = H[q]?) → va_S A0 H0 H1 locs1 → W p l e R s m args below meth c H1 locs1 (cells + mc) (slots + ms) Q (F0 m (pc + 5) ls (.double r :: rest))) : W p l e R s m args below meth c H locs cells slots Q (F0 m pc ls st0) := by
  intro T hT X
  rcases hr T hT X with ⟨v, st₀, t, T', L, h0, X', hL, e1, e2, ⟨⟨r, u, hv, hp, hb⟩, hF⟩, st⟩ | ⟨q, st₀, t, T', L, E, ce, h0, X', hL, e1, e2, ⟨u, hp, hb, hF⟩, hce, hcv, hcl, st⟩
  · cases hv
    obtain ⟨k1, k2, k3⟩ := vx_keep h0 e1 hS hA hf hL hF
    obtain ⟨t2, a1, b1⟩ := kk r u t T'.heap (locs ++ L) e1.symm (by rw [← e2]; exact X'.warmed.alike) hp hb k1 k2 k3 T' rfl X'
    exact ⟨t2, st t2 a1, b1⟩
  · obtain ⟨k1, k2, k3⟩ := vx_keep h0 e1 hS hAX hf hL hF
    obtain ⟨t2, a1, b1⟩ := kx E ce q u t T'.heap (locs ++ L) e1.symm (by rw [← e2]; exact X'.warmed.alike) hp hb k1 k2 k3 (by rw [e1]; exact hce) hcv hcl T' rfl X'
    exact ⟨t2, st.trans a1, b1⟩
end
/-! ===== END ===== -/
/-! ===== BEGIN by an interface, a method with a table of its own that may throw (follows va_callIFW, va_runFW) ===== -/
section
variable {p : Program} {l : Launch} {e : Env} {R : Room} {s : State} {m : MethodId} {args : Array Value} {below : List Frame} {meth : Method} {c : Code} {H : Heap} {locs : List Loc} {cells slots : Nat}
theorem vx_callIFW {T : State} (X : Stand p l e R s m args below meth c T locs cells slots) (hexec : p.tables.exec = Jvm.exec) {own C : String} {index count : Nat} {x y : MethodName} {bytes : ByteArray} {maxL : Nat} {ret : Option FieldType} {hh : List (Nat × Nat × Nat × Nat)}
    (hown : s.vm.findClass own = some m.cls) (hlink : (Cond.methodLink own index x).before args s = true) (hdecl : (Cond.declares x).before args s = true) (hface : (Cond.interfaceMethod x.cls x.cls x.name x.desc).before args s = true)
    (hsel : (Cond.selects C x y).before args s = true) (hinst : (Cond.instanceMethod y).before args s = true) (hpub : (Cond.publicMethod y).before args s = true) (hunh : (Cond.unhidden C x.name x.desc).before args s = true)
    (hcast : (Cond.castable C x.cls).before args s = true) (hcode : (Cond.codeWith y bytes maxL ret hh).before args s = true) (hx : x.cls ≠ "java/lang/invoke/MethodHandle" ∧ x.cls ≠ "java/lang/invoke/VarHandle")
    {W : Nat} {Pre : Pt → Array Value → Prop} {Post : Pt → Array Value → Option Value → Pt → Prop} {PostX : Pt → Array Value → Addr → Pt → Prop} (hK : vx_Back l R p e below s args y 5 W Pre Post PostX)
    {b : Addr} {cellB : Cell} {kB : Class} (hcell : T.heap[b]? = some cellB) (hobj : cellB.vm.isStatics = false) (hcls : s.vm.findClass C = some cellB.cls) (hkB : s.vm.classes[cellB.cls]? = some kB)
    {g : JFrame} (hg : g.method = m) (hsize : g.locals.size = c.maxLocals) {argsL rest : List Value} (hlen : ∀ sig, parseMethodDescriptor x.desc = some sig → argsL.length = sig.parameters.length)
    (hstack : g.stack = argsL.reverse ++ .ref b :: rest) (hW : 2 * g.monitorRoom + (rest.map fun v => v.category).sum ≤ W) (hdg : decode c.code g.pc = .ok (.invokeinterface index count, 5))
    (hpre : ∀ vm₁, s.WarmedH vm₁ → Pre ⟨T.setVm vm₁, locs, cells, slots⟩ (Value.ref b :: argsL).toArray) :
    (∃ (v : Option Value) (vm₁ : Vm) (B : Pt), s.WarmedH vm₁ ∧ Stand p l e R s m args below meth c B.U B.locs B.cells B.slots ∧ Post ⟨T.setVm vm₁, locs, cells, slots⟩ (Value.ref b :: argsL).toArray v B ∧
      ∀ target, Steps p.tables e below (B.U.setTop { g with pc := g.pc + 5, stack := v.toList ++ rest }) target → Steps p.tables e below (T.setTop g) target) ∨
    (∃ (q : Addr) (vm₁ : Vm) (B : Pt), s.WarmedH vm₁ ∧ Stand p l e R s m args below meth c B.U B.locs B.cells B.slots ∧ PostX ⟨T.setVm vm₁, locs, cells, slots⟩ (Value.ref b :: argsL).toArray q B ∧
      Steps p.tables e below (T.setTop g) ((B.U.setTop { g with stack := rest }).pushFrame (.throwing q))) := by
  obtain ⟨r0, r, hn, hrm, hstR, hsigR⟩ := Cond.declares_spec hdecl
  obtain ⟨cL, kL, r1, hcL, hkL, hiL, hfoundL, hn1⟩ := Cond.interfaceMethod_spec hface
  cases hn.symm.trans hn1
  have hr0cls : r0.cls = cL := Option.some.inj ((findClass_of_methodNamed hn).symm.trans hcL)
  obtain ⟨hnameR, hdescR⟩ := name_of_methodNamed hn hrm
  obtain ⟨mk, methM, hnamed, hmethM, -, habM⟩ := Cond.instanceMethod_spec hinst
  obtain ⟨c2, r2, m2, q1, q2, q3, q4, -⟩ := Cond.selects_spec hsel
  cases hcls.symm.trans q1
  cases hfoundL.symm.trans q2
  cases hnamed.symm.trans q3
  have hselP : selectMethod e.platform s.vm cellB.cls r0 = .method mk := by rw [Launch.admits_selectMethod X.admits]; exact q4
  have hpubM : hasFlag methM.accessFlags Acc.public_ = true := Cond.publicMethod_spec hnamed hmethM hpub
  have hway : ((cellB.cls :: s.vm.superclasses cellB.cls).any fun k => (declaredIn s.vm r.name r.desc k).any fun (_, z) => z.isPrivate || z.isStatic) = false := by
    rw [hnameR, hdescR]; exact Cond.unhidden_spec hcls hunh
  obtain ⟨c3, t3, w1, w2, w3⟩ := Cond.castable_spec hcast
  cases hcls.symm.trans w1
  cases hcL.symm.trans w2
  obtain ⟨vm₁, X₁, hstep₁⟩ := X.invokeinterface hexec hown hlink hn hrm hstR (by rw [hr0cls]; exact hkL) hiL hx (a := b) (cell := cellB) (kcell := kB) hcell
    (fun z h => by rw [h] at hobj; cases hobj) hkB (by rw [hr0cls]; exact w3) hselP hmethM hway hpubM habM (g := g) hg (argsL := argsL) (rest := rest) (hlen _ hsigR) hstack hdg
  rcases hK m meth c ⟨T.setVm vm₁, locs, cells, slots⟩ { g with stack := rest } (.invokeinterface index count) mk (Value.ref b :: argsL).toArray X₁ hg hsize hdg hW (X₁.named hnamed) (hpre vm₁ X₁.warmed) with ⟨v, B, X', hpost, hsteps⟩ | ⟨q, B, X', hpost, hsteps⟩
  · exact Or.inl ⟨v, vm₁, B, X₁.warmed, X', hpost, fun target h => hstep₁ _ fun acts => by rw [doInvoke_state]; exact hsteps.trans h⟩
  · exact Or.inr ⟨q, vm₁, B, X₁.warmed, X', hpost, hstep₁ _ fun acts => by rw [doInvoke_state]; exact hsteps⟩
theorem vx_runFW {x y : MethodName} {bytes cc : ByteArray} {maxL nL mc ms n index count : Nat} {ret : Option FieldType} {hh : List (Nat × Nat × Nat × Nat)} {ws : List Cond} {rm : Room} {Pc : Array Value → State → Prop} {Qc : Array Value → State → Outcome → State → Prop} {XC : String → State → State → Prop} {free : Addr → Prop} {Ts : List Cond} {own C : String} {cC : ClassId} {b : Addr} {As rest : List Value} {g : JFrame}
    (hat : ClassAt s C cC) (S : CallFix p m c cc nL s args Ts own) (hM : vx_Met l y ws rm Pc Qc XC mc ms free) (cw : va_CIW R s args own C index x y bytes maxL ret hh ws rm mc ms n) (hp : PreV s H C b Pc As)
    (hg : g.method = m) (hn : As.length = n) (hsize : g.locals.size = nL) (hstack : g.stack = As.reverse ++ .ref b :: rest) (hW : 2 * g.monitorRoom + (rest.map fun v => v.category).sum ≤ 8) (hdg : decode cc g.pc = .ok (.invokeinterface index count, 5)) (hf : cells + mc ≤ R.cells ∧ slots + ms ≤ R.slots) :
    vx_Run5 p l e R s m args below meth c H locs cells slots mc ms g rest (Qc (Value.ref b :: As).toArray) XC free := by
  obtain ⟨hrc, hrs, hfr, hlo, hws, hcw⟩ := cw.back
  have hini := cw.init
  have hK : vx_Back l R p e below s args y 5 8 (PreOf R mc ms Pc) (PostOf Qc mc ms free) (vx_Post XC mc ms free) := vx_backW (hh := hh) (bytes := bytes) (maxL := maxL) (ret := ret) hM hp.1 hrc hrs hfr hlo hws hcw (fun a' U hW => word_at hW (Or.inl (by first | rfl | simp [Cond.onTables, Cond.keeps, Cond.steady])) hini)
  obtain ⟨hx, hb, hml, ho, -⟩ := S
  obtain ⟨-, ⟨cellB, hcB, hoB, hclB⟩, hPc⟩ := hp
  obtain ⟨hfc, kB, hkB, -⟩ := hat
  cases hfc.symm.trans hclB
  intro T hT X
  rcases vx_callIFW X hx (C := C) (hh := hh) (bytes := bytes) (maxL := maxL) (ret := ret) ho cw.link cw.decl cw.face cw.sel cw.inst cw.pub cw.unh cw.cast cw.code cw.notMH hK (by rw [hT]; exact hcB) hoB hclB hkB hg (hsize.trans hml.symm) (argsL := As) (rest := rest) (fun sig h => hn.trans (cw.len sig h)) hstack hW (by rw [hb]; exact hdg)
    (fun vm₁ hW₁ => ⟨hf.1, hf.2, hPc (T.setVm vm₁) hT hW₁⟩) with ⟨v, vm₁, ⟨U', l2, c2, s2⟩, hW₁, X', ⟨g', mk, t, L, e1, e2, hq, h1, hL, h2, h3⟩, st⟩ | ⟨q, vm₁, ⟨U', l2, c2, s2⟩, hW₁, X', ⟨g', mk, t, L, E, ce, e1, e2, hq, hce, hcv, hcl, h1, hL, h2, h3⟩, st⟩
  · dsimp only [Pt.U, Pt.locs, Pt.cells, Pt.slots] at X' e1 e2 h1 h2 h3 st
    subst h1; subst h2; subst h3
    exact Or.inl ⟨v, (T.setVm vm₁).calling g' mk (Value.ref b :: As).toArray, t, U', L, hT, X', hL, e1, e2, hq, st⟩
  · dsimp only [Pt.U, Pt.locs, Pt.cells, Pt.slots] at X' e1 e2 h1 h2 h3 st hcl
    subst h1; subst h2; subst h3
    exact Or.inr ⟨q, (T.setVm vm₁).calling g' mk (Value.ref b :: As).toArray, t, U', L, E, ce, hT, X', hL, e1, e2, hq, hce, hcv, vx_cls hW₁ hcl, st⟩
end
/-! ===== END ===== -/
/-! ===== BEGIN .. of methods that hand back an object of the pool ===== -/
section
variable {p : Program} {l : Launch} {e : Env} {R : Room} {s : State} {m : MethodId} {args : Array Value} {below : List Frame} {meth : Method} {c : Code} {H : Heap} {locs : List Loc} {cells slots : Nat} {Q : State → Prop}
variable {mc ms : Nat} {free : Addr → Prop} {A0 A1 : Nat → Prop} {H0 : Heap} {a : Array Value} {pc : Nat} {ls : Array Slot} {st0 rest : List Value}
theorem vx_callq {S SX : Type} {post : Option Nat → S → Prop} {px : SX → Prop} {B : S → State → Prop} {BX : String → SX → State → Prop} {AX : Nat → Prop} (hr : vx_Run p l e R s m args below meth c H locs cells slots mc ms (F0 m pc ls st0) rest (va_Qq post B A1 a) (vx_X px BX AX) free) (hS : va_S A0 H0 H locs) (hA : ∀ q, q < H.size → A1 q → A0 q) (hf : ∀ q, free q → A0 q) (hAX : ∀ q, q < H.size → AX q → A0 q)
    (kx : ∀ (E : String) (ce : Cell) (q9 : Addr) (u : SX) (t : State) (H1 : Heap) (locs1 : List Loc), t.heap = H1 → s.vm.Alike t.vm → px u → BX E u t → H.size ≤ H1.size → (∀ q : Nat, q < H.size → ¬ AX q → H1[q]? = H[q]?) → va_S A0 H0 H1 locs1 → H1[q9]? = some ce → ce.vm = .none → s.vm.findClass E = some ce.cls → vx_W p l e R s m args below meth c H1 locs1 (cells + mc) (slots + ms) Q (F0 m pc ls rest) q9)
    (kk : ∀ (r : Option Nat) (u : S) (t : State) (H1 : Heap) (locs1 : List Loc), t.heap = H1 → s.vm.Alike t.vm → post r u → B u t → H.size ≤ H1.size → (∀ q : Nat, q < H.size → ¬ A1 q → H1[q]? = H[q]?) → va_S A0 H0 H1 locs1 → W p l e R s m args below meth c H1 locs1 (cells + mc) (slots + ms) Q (F0 m (pc + 3) ls (va_rf r :: rest))) : W p l e R s m args below meth c H locs cells slots Q (F0 m pc ls st0) := by
  intro T hT X
  rcases hr T hT X with ⟨v, st₀, t, T', L, h0, X', hL, e1, e2, ⟨⟨r, u, hv, hp, hb⟩, hF⟩, st⟩ | ⟨q, st₀, t, T', L, E, ce, h0, X', hL, e1, e2, ⟨u, hp, hb, hF⟩, hce, hcv, hcl, st⟩
  · cases hv
    obtain ⟨k1, k2, k3⟩ := vx_keep h0 e1 hS hA hf hL hF
    obtain ⟨t2, a1, b1⟩ := kk r u t T'.heap (locs ++ L) e1.symm (by rw [← e2]; exact X'.warmed.alike) hp hb k1 k2 k3 T' rfl X'
    exact ⟨t2, st t2 a1, b1⟩
  · obtain ⟨k1, k2, k3⟩ := vx_keep h0 e1 hS hAX hf hL hF
    obtain ⟨t2, a1, b1⟩ := kx E ce q u t T'.heap (locs ++ L) e1.symm (by rw [← e2]; exact X'.warmed.alike) hp hb k1 k2 k3 (by rw [e1]; exact hce) hcv hcl T' rfl X'
    exact ⟨t2, st.trans a1, b1⟩
end
/-! ===== END ===== -/
/-! ===== BEGIN .. a constant ===== -/
section
variable {p : Program} {l : Launch} {e : Env} {R : Room} {s : State} {m : MethodId} {args : Array Value} {below : List Frame} {meth : Method} {c : Code} {H : Heap} {locs : List Loc} {cells slots : Nat} {Q : State → Prop}
variable {mc ms : Nat} {free : Addr → Prop} {A0 A1 : Nat → Prop} {H0 : Heap} {a : Array Value} {pc : Nat} {ls : Array Slot} {st0 rest : List Value}
theorem vx_calle {ad : Nat → Nat} {S SX : Type} {post : Option Nat → S → Prop} {px : SX → Prop} {B : S → State → Prop} {BX : String → SX → State → Prop} {AX : Nat → Prop} (hr : vx_Run p l e R s m args below meth c H locs cells slots mc ms (F0 m pc ls st0) rest (va_Qe ad post B A1 a) (vx_X px BX AX) free) (hS : va_S A0 H0 H locs) (hA : ∀ q, q < H.size → A1 q → A0 q) (hf : ∀ q, free q → A0 q) (hAX : ∀ q, q < H.size → AX q → A0 q)
    (kx : ∀ (E : String) (ce : Cell) (q9 : Addr) (u : SX) (t : State) (H1 : Heap) (locs1 : List Loc), t.heap = H1 → s.vm.Alike t.vm → px u → BX E u t → H.size ≤ H1.size → (∀ q : Nat, q < H.size → ¬ AX q → H1[q]? = H[q]?) → va_S A0 H0 H1 locs1 → H1[q9]? = some ce → ce.vm = .none → s.vm.findClass E = some ce.cls → vx_W p l e R s m args below meth c H1 locs1 (cells + mc) (slots + ms) Q (F0 m pc ls rest) q9)
    (kk : ∀ (r : Option Nat) (u : S) (t : State) (H1 : Heap) (locs1 : List Loc), t.heap = H1 → s.vm.Alike t.vm → post r u → B u t → H.size ≤ H1.size → (∀ q : Nat, q < H.size → ¬ A1 q → H1[q]? = H[q]?) → va_S A0 H0 H1 locs1 → W p l e R s m args below meth c H1 locs1 (cells + mc) (slots + ms) Q (F0 m (pc + 3) ls (va_re ad r :: rest))) : W p l e R s m args below meth c H locs cells slots Q (F0 m pc ls st0) := by
  intro T hT X
  rcases hr T hT X with ⟨v, st₀, t, T', L, h0, X', hL, e1, e2, ⟨⟨r, u, hv, hp, hb⟩, hF⟩, st⟩ | ⟨q, st₀, t, T', L, E, ce, h0, X', hL, e1, e2, ⟨u, hp, hb, hF⟩, hce, hcv, hcl, st⟩
  · cases hv
    obtain ⟨k1, k2, k3⟩ := vx_keep h0 e1 hS hA hf hL hF
    obtain ⟨t2, a1, b1⟩ := kk r u t T'.heap (locs ++ L) e1.symm (by rw [← e2]; exact X'.warmed.alike) hp hb k1 k2 k3 T' rfl X'
    exact ⟨t2, st t2 a1, b1⟩
  · obtain ⟨k1, k2, k3⟩ := vx_keep h0 e1 hS hAX hf hL hF
    obtain ⟨t2, a1, b1⟩ := kx E ce q u t T'.heap (locs ++ L) e1.symm (by rw [← e2]; exact X'.warmed.alike) hp hb k1 k2 k3 (by rw [e1]; exact hce) hcv hcl T' rfl X'
    exact ⟨t2, st.trans a1, b1⟩
end
/-! ===== END ===== -/
/-! ===== BEGIN .. by an interface, an object ===== -/
section
variable {p : Program} {l : Launch} {e : Env} {R : Room} {s : State} {m : MethodId} {args : Array Value} {below : List Frame} {meth : Method} {c : Code} {H : Heap} {locs : List Loc} {cells slots : Nat} {Q : State → Prop}
variable {mc ms : Nat} {free : Addr → Prop} {A0 A1 : Nat → Prop} {H0 : Heap} {a : Array Value} {pc : Nat} {ls : Array Slot} {st0 rest : List Value}
theorem vx_callFq {S SX : Type} {post : Option Nat → S → Prop} {px : SX → Prop} {B : S → State → Prop} {BX : String → SX → State → Prop} {AX : Nat → Prop} (hr : vx_Run5 p l e R s m args below meth c H locs cells slots mc ms (F0 m pc ls st0) rest (va_Qq post B A1 a) (vx_X px BX AX) free) (hS : va_S A0 H0 H locs) (hA : ∀ q, q < H.size → A1 q → A0 q) (hf : ∀ q, free q → A0 q) (hAX : ∀ q, q < H.size → AX q → A0 q)
    (kx : ∀ (E : String) (ce : Cell) (q9 : Addr) (u : SX) (t : State) (H1 : Heap) (locs1 : List Loc), t.heap = H1 → s.vm.Alike t.vm → px u → BX E u t → H.size ≤ H1.size → (∀ q : Nat, q < H.size → ¬ AX q → H1[q]? = H[q]?) → va_S A0 H0 H1 locs1 → H1[q9]? = some ce → ce.vm = .none → s.vm.findClass E = some ce.cls → vx_W p l e R s m args below meth c H1 locs1 (cells + mc) (slots + ms) Q (F0 m pc ls rest) q9)
    (kk : ∀ (r : Option Nat) (u : S) (t : State) (H1 : Heap) (locs1 : List Loc), t.heap = H1 → s.vm.Alike t.vm → post r u → B u t → H.size ≤ H1.size → (∀ q : Nat, q < H.size → ¬ A1 q → H1[q]? = H[q]?) → va_S A0 H0 H1 locs1 → W p l e R s m args below meth c H1 locs1 (cells + mc) (slots + ms) Q (F0 m (pc + 5) ls (va_rf r :: rest))) : W p l e R s m args below meth c H locs cells slots Q (F0 m pc ls st0) := by
  intro T hT X
  rcases hr T hT X with ⟨v, st₀, t, T', L, h0, X', hL, e1, e2, ⟨⟨r, u, hv, hp, hb⟩, hF⟩, st⟩ | ⟨q, st₀, t, T', L, E, ce, h0, X', hL, e1, e2, ⟨u, hp, hb, hF⟩, hce, hcv, hcl, st⟩
  · cases hv
    obtain ⟨k1, k2, k3⟩ := vx_keep h0 e1 hS hA hf hL hF
    obtain ⟨t2, a1, b1⟩ := kk r u t T'.heap (locs ++ L) e1.symm (by rw [← e2]; exact X'.warmed.alike) hp hb k1 k2 k3 T' rfl X'
    exact ⟨t2, st t2 a1, b1⟩
  · obtain ⟨k1, k2, k3⟩ := vx_keep h0 e1 hS hAX hf hL hF
    obtain ⟨t2, a1, b1⟩ := kx E ce q u t T'.heap (locs ++ L) e1.symm (by rw [← e2]; exact X'.warmed.alike) hp hb k1 k2 k3 (by rw [e1]; exact hce) hcv hcl T' rfl X'
    exact ⟨t2, st.trans a1, b1⟩
end
/-! ===== END ===== -/
/-! ===== BEGIN .. by an interface, a constant ===== -/
section
variable {p : Program} {l : Launch} {e : Env} {R : Room} {s : State} {m : MethodId} {args : Array Value} {below : List Frame} {meth : Method} {c : Code} {H : Heap} {locs : List Loc} {cells slots : Nat} {Q : State → Prop}
variable {mc ms : Nat} {free : Addr → Prop} {A0 A1 : Nat → Prop} {H0 : Heap} {a : Array Value} {pc : Nat} {ls : Array Slot} {st0 rest : List Value}
theorem vx_callFe {ad : Nat → Nat} {S SX : Type} {post : Option Nat → S → Prop} {px : SX → Prop} {B : S → State → Prop} {BX : String → SX → State → Prop} {AX : Nat → Prop} (hr : vx_Run5 p l e R s m args below meth c H locs cells slots mc ms (F0 m pc ls st0) rest (va_Qe ad post B A1 a) (vx_X px BX AX) free) (hS : va_S A0 H0 H locs) (hA : ∀ q, q < H.size → A1 q → A0 q) (hf : ∀ q, free q → A0 q) (hAX : ∀ q, q < H.size → AX q → A0 q)
    (kx : ∀ (E : String) (ce : Cell) (q9 : Addr) (u : SX) (t : State) (H1 : Heap) (locs1 : List Loc), t.heap = H1 → s.vm.Alike t.vm → px u → BX E u t → H.size ≤ H1.size → (∀ q : Nat, q < H.size → ¬ AX q → H1[q]? = H[q]?) → va_S A0 H0 H1 locs1 → H1[q9]? = some ce → ce.vm = .none → s.vm.findClass E = some ce.cls → vx_W p l e R s m args below meth c H1 locs1 (cells + mc) (slots + ms) Q (F0 m pc ls rest) q9)
    (kk : ∀ (r : Option Nat) (u : S) (t : State) (H1 : Heap) (locs1 : List Loc), t.heap = H1 → s.vm.Alike t.vm → post r u → B u t → H.size ≤ H1.size → (∀ q : Nat, q < H.size → ¬ A1 q → H1[q]? = H[q]?) → va_S A0 H0 H1 locs1 → W p l e R s m args below meth c H1 locs1 (cells + mc) (slots + ms) Q (F0 m (pc + 5) ls (va_re ad r :: rest))) : W p l e R s m args below meth c H locs cells slots Q (F0 m pc ls st0) := by
  intro T hT X
  rcases hr T hT X with ⟨v, st₀, t, T', L, h0, X', hL, e1, e2, ⟨⟨r, u, hv, hp, hb⟩, hF⟩, st⟩ | ⟨q, st₀, t, T', L, E, ce, h0, X', hL, e1, e2, ⟨u, hp, hb, hF⟩, hce, hcv, hcl, st⟩
  · cases hv
    obtain ⟨k1, k2, k3⟩ := vx_keep h0 e1 hS hA hf hL hF
    obtain ⟨t2, a1, b1⟩ := kk r u t T'.heap (locs ++ L) e1.symm (by rw [← e2]; exact X'.warmed.alike) hp hb k1 k2 k3 T' rfl X'
    exact ⟨t2, st t2 a1, b1⟩
  · obtain ⟨k1, k2, k3⟩ := vx_keep h0 e1 hS hAX hf hL hF
    obtain ⟨t2, a1, b1⟩ := kx E ce q u t T'.heap (locs ++ L) e1.symm (by rw [← e2]; exact X'.warmed.alike) hp hb k1 k2 k3 (by rw [e1]; exact hce) hcv hcl T' rfl X'
    exact ⟨t2, st.trans a1, b1⟩
end
/-! ===== END ===== -/
/-! ===== BEGIN what the machine throws by itself: null at a field, at athrow ===== -/
section VXM2
variable {p : Program} {l : Launch} {e : Env} {R : Room} {s : State} {m : MethodId} {args : Array Value} {below : List Frame} {meth : Method} {c : Code} {H : Heap} {locs : List Loc} {cells slots : Nat}
variable {Q : State → Prop} {cc : ByteArray} {pc : Nat} {ls : Array Slot} {rest : List Value}
theorem vx_getfN {D cl tys} {own ref C : String} {T : u_T} {N ci index : Nat} {Ts : List Cond} (hexec : p.tables.exec = Jvm.exec) (hb : c.code = cc) (hts : ∀ w ∈ Ts, w.before args s = true) (hin : ∀ w ∈ u_ws C T N, w ∈ Ts) (hown : s.vm.findClass own = some m.cls) (hK : va_K D cl tys s) (hc : cl[ci]? = some (C, T, N)) (k : Nat) (hk : k < N) (hlink : (Cond.fieldLink own index ref (T k).2.1 (T k).2.2.1).before args s = true) (hsame : ∀ x, s.fieldFound? (T k).1 (T k).2.1 (T k).2.2.1 = some x → s.fieldFound? ref (T k).2.1 (T k).2.2.1 = some x) (hdg : decode cc pc = .ok (.getfield index, 3)) (kk : vx_NoteN p l e R s m args below meth c H locs cells slots Q (F0 m pc ls rest)) : W p l e R s m args below meth c H locs cells slots Q (F0 m pc ls (.null :: rest)) := by
  obtain ⟨hS, hfc, kC, hkC, -⟩ := hK.1 ci _ hc
  obtain ⟨cf, kf, fi, f, hi, -⟩ := hS k hk
  intro U hU X
  obtain ⟨vm', X1, st1⟩ := X.getfieldNull hexec hown hlink (hsame _ hi) (u_facts hfc hkC (u_lays hts hin hk) hi).1 (g := F0 m pc ls (.null :: rest)) rfl (rest := rest) rfl (by rw [hb]; exact hdg)
  obtain ⟨t, st, q⟩ := kk (U.setVm vm') hU X1
  exact ⟨t, st1 t st, q⟩
theorem vx_getfNN {D cl tys} {own ref C host : String} {T : u_T} {N ci index : Nat} {Ts : List Cond} (hexec : p.tables.exec = Jvm.exec) (hb : c.code = cc) (hts : ∀ w ∈ Ts, w.before args s = true) (hin : ∀ w ∈ u_ws C T N, w ∈ Ts) (hown : s.vm.findClass own = some m.cls) (hK : va_K D cl tys s) (hc : cl[ci]? = some (C, T, N)) (k : Nat) (hk : k < N) (hlink : (Cond.fieldLinkNest own index ref (T k).2.1 (T k).2.2.1 host).before args s = true) (hsame : ∀ x, s.fieldFound? (T k).1 (T k).2.1 (T k).2.2.1 = some x → s.fieldFound? ref (T k).2.1 (T k).2.2.1 = some x) (hdg : decode cc pc = .ok (.getfield index, 3)) (kk : vx_NoteN p l e R s m args below meth c H locs cells slots Q (F0 m pc ls rest)) : W p l e R s m args below meth c H locs cells slots Q (F0 m pc ls (.null :: rest)) := by
  obtain ⟨hS, hfc, kC, hkC, -⟩ := hK.1 ci _ hc
  obtain ⟨cf, kf, fi, f, hi, -⟩ := hS k hk
  intro U hU X
  obtain ⟨vm', X1, st1⟩ := X.getfieldNullNest hexec hown hlink (hsame _ hi) (u_facts hfc hkC (u_lays hts hin hk) hi).1 (g := F0 m pc ls (.null :: rest)) rfl (rest := rest) rfl (by rw [hb]; exact hdg)
  obtain ⟨t, st, q⟩ := kk (U.setVm vm') hU X1
  exact ⟨t, st1 t st, q⟩
theorem vx_putfN {D cl tys} {own ref C : String} {T : u_T} {N ci index : Nat} {Ts : List Cond} (hexec : p.tables.exec = Jvm.exec) (hb : c.code = cc) (hts : ∀ w ∈ Ts, w.before args s = true) (hin : ∀ w ∈ u_ws C T N, w ∈ Ts) (hown : s.vm.findClass own = some m.cls) (hK : va_K D cl tys s) (hc : cl[ci]? = some (C, T, N)) (k : Nat) (hk : k < N) (hlink : (Cond.fieldLink own index ref (T k).2.1 (T k).2.2.1).before args s = true) (hsame : ∀ x, s.fieldFound? (T k).1 (T k).2.1 (T k).2.2.1 = some x → s.fieldFound? ref (T k).2.1 (T k).2.2.1 = some x) (hfin : (T k).2.2.2 = false) {v : Value} (hdg : decode cc pc = .ok (.putfield index, 3)) (kk : vx_NoteN p l e R s m args below meth c H locs cells slots Q (F0 m pc ls rest)) : W p l e R s m args below meth c H locs cells slots Q (F0 m pc ls (v :: .null :: rest)) := by
  obtain ⟨hS, hfc, kC, hkC, -⟩ := hK.1 ci _ hc
  obtain ⟨cf, kf, fi, f, hi, -⟩ := hS k hk
  have hlay := hts _ (hin _ (u_in_lay hk))
  unfold u_lay at hlay
  rw [if_neg (by rw [hfin]; decide)] at hlay
  obtain ⟨c9, k9, cf9, kf9, fi9, f9, -, -, hi9, hst9, hnf9, -⟩ := Cond.lays_spec hlay
  cases hi.symm.trans hi9
  intro U hU X
  obtain ⟨vm', X1, st1⟩ := X.putfieldNull hexec hown hlink (hsame _ hi) hst9 hnf9 (g := F0 m pc ls (v :: .null :: rest)) rfl (v := v) (rest := rest) rfl (by rw [hb]; exact hdg)
  obtain ⟨t, st, q⟩ := kk (U.setVm vm') hU X1
  exact ⟨t, st1 t st, q⟩
theorem vx_putfNN {D cl tys} {own ref C host : String} {T : u_T} {N ci index : Nat} {Ts : List Cond} (hexec : p.tables.exec = Jvm.exec) (hb : c.code = cc) (hts : ∀ w ∈ Ts, w.before args s = true) (hin : ∀ w ∈ u_ws C T N, w ∈ Ts) (hown : s.vm.findClass own = some m.cls) (hK : va_K D cl tys s) (hc : cl[ci]? = some (C, T, N)) (k : Nat) (hk : k < N) (hlink : (Cond.fieldLinkNest own index ref (T k).2.1 (T k).2.2.1 host).before args s = true) (hsame : ∀ x, s.fieldFound? (T k).1 (T k).2.1 (T k).2.2.1 = some x → s.fieldFound? ref (T k).2.1 (T k).2.2.1 = some x) (hfin : (T k).2.2.2 = false) {v : Value} (hdg : decode cc pc = .ok (.putfield index, 3)) (kk : vx_NoteN p l e R s m args below meth c H locs cells slots Q (F0 m pc ls rest)) : W p l e R s m args below meth c H locs cells slots Q (F0 m pc ls (v :: .null :: rest)) := by
  obtain ⟨hS, hfc, kC, hkC, -⟩ := hK.1 ci _ hc
  obtain ⟨cf, kf, fi, f, hi, -⟩ := hS k hk
  have hlay := hts _ (hin _ (u_in_lay hk))
  unfold u_lay at hlay
  rw [if_neg (by rw [hfin]; decide)] at hlay
  obtain ⟨c9, k9, cf9, kf9, fi9, f9, -, -, hi9, hst9, hnf9, -⟩ := Cond.lays_spec hlay
  cases hi.symm.trans hi9
  intro U hU X
  obtain ⟨vm', X1, st1⟩ := X.putfieldNullNest hexec hown hlink (hsame _ hi) hst9 hnf9 (g := F0 m pc ls (v :: .null :: rest)) rfl (v := v) (rest := rest) rfl (by rw [hb]; exact hdg)
  obtain ⟨t, st, q⟩ := kk (U.setVm vm') hU X1
  exact ⟨t, st1 t st, q⟩
theorem vx_athrowN (hexec : p.tables.exec = Jvm.exec) (hb : c.code = cc) (hdg : decode cc pc = .ok (.athrow, 1)) (k : vx_NoteN p l e R s m args below meth c H locs cells slots Q (F0 m pc ls rest)) : W p l e R s m args below meth c H locs cells slots Q (F0 m pc ls (.null :: rest)) := by
  intro T hT X
  obtain ⟨t, st, q⟩ := k T hT X
  exact ⟨t, X.athrowNull hexec (g := F0 m pc ls (.null :: rest)) rfl (rest := rest) rfl (by rw [hb]; exact hdg) t st, q⟩
end VXM2
/-! ===== END ===== -/
end
section
-- ===== PART A: goes FIRST, ahead of the names: the tables' words, and 'selects' of the private methods out of them =====
/-- a private method of a class that the tables say can be made, by its rows of tables_1 -/
def lw_okq (q : MethodName × Nat) : Prop := (q.1.cls ≠ "java/lang/invoke/MethodHandle" ∧ q.1.cls ≠ "java/lang/invoke/VarHandle") ∧ Cond.instantiable q.1.cls q.2 ∈ tables_1 ∧ Cond.privateMethod q.1 ∈ tables_1 ∧ Cond.instanceMethod q.1 ∈ tables_1
theorem lw_p0 : lw_okq (⟨"PartitionBench$Setup", "next", "()V"⟩, 12) := ⟨⟨by decide +kernel, by decide +kernel⟩, List.mem_of_getElem? (i := 240) (by decide +kernel), List.mem_of_getElem? (i := 357) (by decide +kernel), List.mem_of_getElem? (i := 358) (by decide +kernel)⟩
theorem lw_p1 : lw_okq (⟨"PartitionBench$Setup", "byteAt", "(I)I"⟩, 12) := ⟨⟨by decide +kernel, by decide +kernel⟩, List.mem_of_getElem? (i := 240) (by decide +kernel), List.mem_of_getElem? (i := 361) (by decide +kernel), List.mem_of_getElem? (i := 362) (by decide +kernel)⟩
theorem lw_p2 : lw_okq (⟨"PartitionBench$Setup", "isWord", "(Ljava/lang/String;)Z"⟩, 12) := ⟨⟨by decide +kernel, by decide +kernel⟩, List.mem_of_getElem? (i := 240) (by decide +kernel), List.mem_of_getElem? (i := 372) (by decide +kernel), List.mem_of_getElem? (i := 373) (by decide +kernel)⟩
theorem lw_p3 : lw_okq (⟨"PartitionBench$Setup", "fail", "(I)Z"⟩, 12) := ⟨⟨by decide +kernel, by decide +kernel⟩, List.mem_of_getElem? (i := 240) (by decide +kernel), List.mem_of_getElem? (i := 424) (by decide +kernel), List.mem_of_getElem? (i := 425) (by decide +kernel)⟩
theorem lw_p4 : lw_okq (⟨"PartitionBench$Setup", "number", "(II)Z"⟩, 12) := ⟨⟨by decide +kernel, by decide +kernel⟩, List.mem_of_getElem? (i := 240) (by decide +kernel), List.mem_of_getElem? (i := 428) (by decide +kernel), List.mem_of_getElem? (i := 429) (by decide +kernel)⟩
theorem lw_p5 : lw_okq (⟨"PartitionBench$Setup", "semicolon", "()Z"⟩, 12) := ⟨⟨by decide +kernel, by decide +kernel⟩, List.mem_of_getElem? (i := 240) (by decide +kernel), List.mem_of_getElem? (i := 433) (by decide +kernel), List.mem_of_getElem? (i := 434) (by decide +kernel)⟩
theorem lw_p6 : lw_okq (⟨"PartitionBench$Setup", "statement", "(LPartitionBench$Disk;)Z"⟩, 12) := ⟨⟨by decide +kernel, by decide +kernel⟩, List.mem_of_getElem? (i := 240) (by decide +kernel), List.mem_of_getElem? (i := 437) (by decide +kernel), List.mem_of_getElem? (i := 438) (by decide +kernel)⟩
theorem lw_p7 : lw_okq (⟨"PartitionBench$Setup", "partition", "(LPartitionBench$Disk;)Z"⟩, 12) := ⟨⟨by decide +kernel, by decide +kernel⟩, List.mem_of_getElem? (i := 240) (by decide +kernel), List.mem_of_getElem? (i := 442) (by decide +kernel), List.mem_of_getElem? (i := 443) (by decide +kernel)⟩
theorem lw_p8 : lw_okq (⟨"PartitionBench$Setup", "locking", "(LPartitionBench$Disk;)Z"⟩, 12) := ⟨⟨by decide +kernel, by decide +kernel⟩, List.mem_of_getElem? (i := 240) (by decide +kernel), List.mem_of_getElem? (i := 487) (by decide +kernel), List.mem_of_getElem? (i := 488) (by decide +kernel)⟩
theorem lw_p9 : lw_okq (⟨"PartitionBench$Setup", "chunking", "(LPartitionBench$Disk;)Z"⟩, 12) := ⟨⟨by decide +kernel, by decide +kernel⟩, List.mem_of_getElem? (i := 240) (by decide +kernel), List.mem_of_getElem? (i := 496) (by decide +kernel), List.mem_of_getElem? (i := 497) (by decide +kernel)⟩
theorem lw_p10 : lw_okq (⟨"PartitionBench$Setup", "layout", "(LPartitionBench$Disk;)Z"⟩, 12) := ⟨⟨by decide +kernel, by decide +kernel⟩, List.mem_of_getElem? (i := 240) (by decide +kernel), List.mem_of_getElem? (i := 500) (by decide +kernel), List.mem_of_getElem? (i := 501) (by decide +kernel)⟩
theorem lw_p11 : lw_okq (⟨"PartitionBench", "gapsNow", "()LPartitionBench$Gaps;"⟩, 8) := ⟨⟨by decide +kernel, by decide +kernel⟩, List.mem_of_getElem? (i := 24) (by decide +kernel), List.mem_of_getElem? (i := 599) (by decide +kernel), List.mem_of_getElem? (i := 600) (by decide +kernel)⟩
theorem lw_p12 : lw_okq (⟨"PartitionBench$Gaps", "note", "(II)V"⟩, 4) := ⟨⟨by decide +kernel, by decide +kernel⟩, List.mem_of_getElem? (i := 220) (by decide +kernel), List.mem_of_getElem? (i := 652) (by decide +kernel), List.mem_of_getElem? (i := 653) (by decide +kernel)⟩
theorem lw_p13 : lw_okq (⟨"java/lang/Throwable", "fillInStackTrace", "(I)Ljava/lang/Throwable;"⟩, 6) := ⟨⟨by decide +kernel, by decide +kernel⟩, List.mem_of_getElem? (i := 924) (by decide +kernel), List.mem_of_getElem? (i := 922) (by decide +kernel), List.mem_of_getElem? (i := 923) (by decide +kernel)⟩
theorem lw_p14 : lw_okq (⟨"PartitionBench", "need", "(I)LPartitionBench$Part;"⟩, 8) := ⟨⟨by decide +kernel, by decide +kernel⟩, List.mem_of_getElem? (i := 24) (by decide +kernel), List.mem_of_getElem? (i := 961) (by decide +kernel), List.mem_of_getElem? (i := 962) (by decide +kernel)⟩
theorem lw_p15 : lw_okq (⟨"PartitionBench", "needSector", "(I)V"⟩, 8) := ⟨⟨by decide +kernel, by decide +kernel⟩, List.mem_of_getElem? (i := 24) (by decide +kernel), List.mem_of_getElem? (i := 990) (by decide +kernel), List.mem_of_getElem? (i := 991) (by decide +kernel)⟩
def lw_privs_1 : List (MethodName × Nat) := [(⟨"PartitionBench$Setup", "next", "()V"⟩, 12), (⟨"PartitionBench$Setup", "byteAt", "(I)I"⟩, 12), (⟨"PartitionBench$Setup", "isWord", "(Ljava/lang/String;)Z"⟩, 12), (⟨"PartitionBench$Setup", "fail", "(I)Z"⟩, 12), (⟨"PartitionBench$Setup", "number", "(II)Z"⟩, 12), (⟨"PartitionBench$Setup", "semicolon", "()Z"⟩, 12), (⟨"PartitionBench$Setup", "statement", "(LPartitionBench$Disk;)Z"⟩, 12), (⟨"PartitionBench$Setup", "partition", "(LPartitionBench$Disk;)Z"⟩, 12), (⟨"PartitionBench$Setup", "locking", "(LPartitionBench$Disk;)Z"⟩, 12), (⟨"PartitionBench$Setup", "chunking", "(LPartitionBench$Disk;)Z"⟩, 12), (⟨"PartitionBench$Setup", "layout", "(LPartitionBench$Disk;)Z"⟩, 12), (⟨"PartitionBench", "gapsNow", "()LPartitionBench$Gaps;"⟩, 8), (⟨"PartitionBench$Gaps", "note", "(II)V"⟩, 4), (⟨"java/lang/Throwable", "fillInStackTrace", "(I)Ljava/lang/Throwable;"⟩, 6), (⟨"PartitionBench", "need", "(I)LPartitionBench$Part;"⟩, 8), (⟨"PartitionBench", "needSector", "(I)V"⟩, 8)]
theorem lw_r1 : ∀ q ∈ lw_privs_1, lw_okq q := List.forall_mem_cons.mpr ⟨lw_p0, List.forall_mem_cons.mpr ⟨lw_p1, List.forall_mem_cons.mpr ⟨lw_p2, List.forall_mem_cons.mpr ⟨lw_p3, List.forall_mem_cons.mpr ⟨lw_p4, List.forall_mem_cons.mpr ⟨lw_p5, List.forall_mem_cons.mpr ⟨lw_p6, List.forall_mem_cons.mpr ⟨lw_p7, List.forall_mem_cons.mpr ⟨lw_p8, List.forall_mem_cons.mpr ⟨lw_p9, List.forall_mem_cons.mpr ⟨lw_p10, List.forall_mem_cons.mpr ⟨lw_p11, List.forall_mem_cons.mpr ⟨lw_p12, List.forall_mem_cons.mpr ⟨lw_p13, List.forall_mem_cons.mpr ⟨lw_p14, List.forall_mem_cons.mpr ⟨lw_p15, fun _ h => absurd h List.not_mem_nil⟩⟩⟩⟩⟩⟩⟩⟩⟩⟩⟩⟩⟩⟩⟩⟩
theorem lw_p16 : lw_okq (⟨"PartitionBench", "needRule", "(I)V"⟩, 8) := ⟨⟨by decide +kernel, by decide +kernel⟩, List.mem_of_getElem? (i := 24) (by decide +kernel), List.mem_of_getElem? (i := 1066) (by decide +kernel), List.mem_of_getElem? (i := 1067) (by decide +kernel)⟩
theorem lw_p17 : lw_okq (⟨"PartitionBench$Gaps", "isBetter", "(III)Z"⟩, 4) := ⟨⟨by decide +kernel, by decide +kernel⟩, List.mem_of_getElem? (i := 220) (by decide +kernel), List.mem_of_getElem? (i := 1075) (by decide +kernel), List.mem_of_getElem? (i := 1076) (by decide +kernel)⟩
theorem lw_p18 : lw_okq (⟨"PartitionBench", "needKindAndMinimum", "(III)V"⟩, 8) := ⟨⟨by decide +kernel, by decide +kernel⟩, List.mem_of_getElem? (i := 24) (by decide +kernel), List.mem_of_getElem? (i := 1088) (by decide +kernel), List.mem_of_getElem? (i := 1089) (by decide +kernel)⟩
theorem lw_p19 : lw_okq (⟨"PartitionBench", "needNumberLeft", "()V"⟩, 8) := ⟨⟨by decide +kernel, by decide +kernel⟩, List.mem_of_getElem? (i := 24) (by decide +kernel), List.mem_of_getElem? (i := 1095) (by decide +kernel), List.mem_of_getElem? (i := 1096) (by decide +kernel)⟩
theorem lw_p20 : lw_okq (⟨"PartitionBench", "needFree", "(LPartitionBench$Part;)V"⟩, 8) := ⟨⟨by decide +kernel, by decide +kernel⟩, List.mem_of_getElem? (i := 24) (by decide +kernel), List.mem_of_getElem? (i := 1131) (by decide +kernel), List.mem_of_getElem? (i := 1132) (by decide +kernel)⟩
theorem lw_p21 : lw_okq (⟨"PartitionBench", "needSizeFor", "(LPartitionBench$Part;I)V"⟩, 8) := ⟨⟨by decide +kernel, by decide +kernel⟩, List.mem_of_getElem? (i := 24) (by decide +kernel), List.mem_of_getElem? (i := 1165) (by decide +kernel), List.mem_of_getElem? (i := 1166) (by decide +kernel)⟩
theorem lw_p22 : lw_okq (⟨"PartitionBench", "needMove", "()V"⟩, 8) := ⟨⟨by decide +kernel, by decide +kernel⟩, List.mem_of_getElem? (i := 24) (by decide +kernel), List.mem_of_getElem? (i := 1244) (by decide +kernel), List.mem_of_getElem? (i := 1245) (by decide +kernel)⟩
theorem lw_p23 : lw_okq (⟨"PartitionBench", "needNoMove", "()V"⟩, 8) := ⟨⟨by decide +kernel, by decide +kernel⟩, List.mem_of_getElem? (i := 24) (by decide +kernel), List.mem_of_getElem? (i := 1295) (by decide +kernel), List.mem_of_getElem? (i := 1296) (by decide +kernel)⟩
theorem lw_p24 : lw_okq (⟨"PartitionBenchModel", "clear", "(I)V"⟩, 26) := ⟨⟨by decide +kernel, by decide +kernel⟩, List.mem_of_getElem? (i := 1428) (by decide +kernel), List.mem_of_getElem? (i := 1434) (by decide +kernel), List.mem_of_getElem? (i := 1435) (by decide +kernel)⟩
theorem lw_p25 : lw_okq (⟨"PartitionBenchModel", "appendWord", "(I)V"⟩, 26) := ⟨⟨by decide +kernel, by decide +kernel⟩, List.mem_of_getElem? (i := 1428) (by decide +kernel), List.mem_of_getElem? (i := 1525) (by decide +kernel), List.mem_of_getElem? (i := 1526) (by decide +kernel)⟩
theorem lw_p26 : lw_okq (⟨"PartitionBenchModel", "advanceToken", "()V"⟩, 26) := ⟨⟨by decide +kernel, by decide +kernel⟩, List.mem_of_getElem? (i := 1428) (by decide +kernel), List.mem_of_getElem? (i := 1543) (by decide +kernel), List.mem_of_getElem? (i := 1544) (by decide +kernel)⟩
theorem lw_p27 : lw_okq (⟨"PartitionBenchModel", "byteAt", "(I)I"⟩, 26) := ⟨⟨by decide +kernel, by decide +kernel⟩, List.mem_of_getElem? (i := 1428) (by decide +kernel), List.mem_of_getElem? (i := 1547) (by decide +kernel), List.mem_of_getElem? (i := 1548) (by decide +kernel)⟩
theorem lw_p28 : lw_okq (⟨"PartitionBenchModel", "readText", "()Z"⟩, 26) := ⟨⟨by decide +kernel, by decide +kernel⟩, List.mem_of_getElem? (i := 1428) (by decide +kernel), List.mem_of_getElem? (i := 1555) (by decide +kernel), List.mem_of_getElem? (i := 1556) (by decide +kernel)⟩
theorem lw_p29 : lw_okq (⟨"PartitionBenchModel", "isWord", "(Ljava/lang/String;)Z"⟩, 26) := ⟨⟨by decide +kernel, by decide +kernel⟩, List.mem_of_getElem? (i := 1428) (by decide +kernel), List.mem_of_getElem? (i := 1560) (by decide +kernel), List.mem_of_getElem? (i := 1561) (by decide +kernel)⟩
theorem lw_p30 : lw_okq (⟨"PartitionBenchModel", "tokenLength", "()I"⟩, 26) := ⟨⟨by decide +kernel, by decide +kernel⟩, List.mem_of_getElem? (i := 1428) (by decide +kernel), List.mem_of_getElem? (i := 1564) (by decide +kernel), List.mem_of_getElem? (i := 1565) (by decide +kernel)⟩
theorem lw_p31 : lw_okq (⟨"PartitionBenchModel", "failsAt", "(I)Z"⟩, 26) := ⟨⟨by decide +kernel, by decide +kernel⟩, List.mem_of_getElem? (i := 1428) (by decide +kernel), List.mem_of_getElem? (i := 1570) (by decide +kernel), List.mem_of_getElem? (i := 1571) (by decide +kernel)⟩
def lw_privs_2 : List (MethodName × Nat) := [(⟨"PartitionBench", "needRule", "(I)V"⟩, 8), (⟨"PartitionBench$Gaps", "isBetter", "(III)Z"⟩, 4), (⟨"PartitionBench", "needKindAndMinimum", "(III)V"⟩, 8), (⟨"PartitionBench", "needNumberLeft", "()V"⟩, 8), (⟨"PartitionBench", "needFree", "(LPartitionBench$Part;)V"⟩, 8), (⟨"PartitionBench", "needSizeFor", "(LPartitionBench$Part;I)V"⟩, 8), (⟨"PartitionBench", "needMove", "()V"⟩, 8), (⟨"PartitionBench", "needNoMove", "()V"⟩, 8), (⟨"PartitionBenchModel", "clear", "(I)V"⟩, 26), (⟨"PartitionBenchModel", "appendWord", "(I)V"⟩, 26), (⟨"PartitionBenchModel", "advanceToken", "()V"⟩, 26), (⟨"PartitionBenchModel", "byteAt", "(I)I"⟩, 26), (⟨"PartitionBenchModel", "readText", "()Z"⟩, 26), (⟨"PartitionBenchModel", "isWord", "(Ljava/lang/String;)Z"⟩, 26), (⟨"PartitionBenchModel", "tokenLength", "()I"⟩, 26), (⟨"PartitionBenchModel", "failsAt", "(I)Z"⟩, 26)]
theorem lw_r2 : ∀ q ∈ lw_privs_2, lw_okq q := List.forall_mem_cons.mpr ⟨lw_p16, List.forall_mem_cons.mpr ⟨lw_p17, List.forall_mem_cons.mpr ⟨lw_p18, List.forall_mem_cons.mpr ⟨lw_p19, List.forall_mem_cons.mpr ⟨lw_p20, List.forall_mem_cons.mpr ⟨lw_p21, List.forall_mem_cons.mpr ⟨lw_p22, List.forall_mem_cons.mpr ⟨lw_p23, List.forall_mem_cons.mpr ⟨lw_p24, List.forall_mem_cons.mpr ⟨lw_p25, List.forall_mem_cons.mpr ⟨lw_p26, List.forall_mem_cons.mpr ⟨lw_p27, List.forall_mem_cons.mpr ⟨lw_p28, List.forall_mem_cons.mpr ⟨lw_p29, List.forall_mem_cons.mpr ⟨lw_p30, List.forall_mem_cons.mpr ⟨lw_p31, fun _ h => absurd h List.not_mem_nil⟩⟩⟩⟩⟩⟩⟩⟩⟩⟩⟩⟩⟩⟩⟩⟩
theorem lw_p32 : lw_okq (⟨"PartitionBenchModel", "takes", "(III)Z"⟩, 26) := ⟨⟨by decide +kernel, by decide +kernel⟩, List.mem_of_getElem? (i := 1428) (by decide +kernel), List.mem_of_getElem? (i := 1574) (by decide +kernel), List.mem_of_getElem? (i := 1575) (by decide +kernel)⟩
theorem lw_p33 : lw_okq (⟨"PartitionBenchModel", "isNumber", "(II)Z"⟩, 26) := ⟨⟨by decide +kernel, by decide +kernel⟩, List.mem_of_getElem? (i := 1428) (by decide +kernel), List.mem_of_getElem? (i := 1578) (by decide +kernel), List.mem_of_getElem? (i := 1579) (by decide +kernel)⟩
theorem lw_p34 : lw_okq (⟨"PartitionBenchModel", "passesSemicolon", "()Z"⟩, 26) := ⟨⟨by decide +kernel, by decide +kernel⟩, List.mem_of_getElem? (i := 1428) (by decide +kernel), List.mem_of_getElem? (i := 1582) (by decide +kernel), List.mem_of_getElem? (i := 1583) (by decide +kernel)⟩
theorem lw_p35 : lw_okq (⟨"PartitionBenchModel", "readStatement", "()Z"⟩, 26) := ⟨⟨by decide +kernel, by decide +kernel⟩, List.mem_of_getElem? (i := 1428) (by decide +kernel), List.mem_of_getElem? (i := 1586) (by decide +kernel), List.mem_of_getElem? (i := 1587) (by decide +kernel)⟩
theorem lw_p36 : lw_okq (⟨"PartitionBenchModel", "readSetting", "(IIII)Z"⟩, 26) := ⟨⟨by decide +kernel, by decide +kernel⟩, List.mem_of_getElem? (i := 1428) (by decide +kernel), List.mem_of_getElem? (i := 1591) (by decide +kernel), List.mem_of_getElem? (i := 1592) (by decide +kernel)⟩
theorem lw_p37 : lw_okq (⟨"PartitionBenchModel", "readPart", "()Z"⟩, 26) := ⟨⟨by decide +kernel, by decide +kernel⟩, List.mem_of_getElem? (i := 1428) (by decide +kernel), List.mem_of_getElem? (i := 1599) (by decide +kernel), List.mem_of_getElem? (i := 1600) (by decide +kernel)⟩
theorem lw_p38 : lw_okq (⟨"PartitionBenchModel", "isUsable", "(JJ)Z"⟩, 26) := ⟨⟨by decide +kernel, by decide +kernel⟩, List.mem_of_getElem? (i := 1428) (by decide +kernel), List.mem_of_getElem? (i := 1603) (by decide +kernel), List.mem_of_getElem? (i := 1604) (by decide +kernel)⟩
theorem lw_p39 : lw_okq (⟨"PartitionBenchModel", "isTaken", "(JJI)Z"⟩, 26) := ⟨⟨by decide +kernel, by decide +kernel⟩, List.mem_of_getElem? (i := 1428) (by decide +kernel), List.mem_of_getElem? (i := 1607) (by decide +kernel), List.mem_of_getElem? (i := 1608) (by decide +kernel)⟩
theorem lw_p40 : lw_okq (⟨"PartitionBenchModel", "of", "(II)I"⟩, 26) := ⟨⟨by decide +kernel, by decide +kernel⟩, List.mem_of_getElem? (i := 1428) (by decide +kernel), List.mem_of_getElem? (i := 1611) (by decide +kernel), List.mem_of_getElem? (i := 1612) (by decide +kernel)⟩
theorem lw_p41 : lw_okq (⟨"PartitionBenchModel", "makes", "(IIII)I"⟩, 26) := ⟨⟨by decide +kernel, by decide +kernel⟩, List.mem_of_getElem? (i := 1428) (by decide +kernel), List.mem_of_getElem? (i := 1618) (by decide +kernel), List.mem_of_getElem? (i := 1619) (by decide +kernel)⟩
theorem lw_p42 : lw_okq (⟨"PartitionBenchModel", "put", "(III)V"⟩, 26) := ⟨⟨by decide +kernel, by decide +kernel⟩, List.mem_of_getElem? (i := 1428) (by decide +kernel), List.mem_of_getElem? (i := 1622) (by decide +kernel), List.mem_of_getElem? (i := 1623) (by decide +kernel)⟩
theorem lw_p43 : lw_okq (⟨"PartitionBenchModel", "writes", "(II)V"⟩, 26) := ⟨⟨by decide +kernel, by decide +kernel⟩, List.mem_of_getElem? (i := 1428) (by decide +kernel), List.mem_of_getElem? (i := 1626) (by decide +kernel), List.mem_of_getElem? (i := 1627) (by decide +kernel)⟩
theorem lw_p44 : lw_okq (⟨"PartitionBenchModel", "numberOf", "(II)I"⟩, 26) := ⟨⟨by decide +kernel, by decide +kernel⟩, List.mem_of_getElem? (i := 1428) (by decide +kernel), List.mem_of_getElem? (i := 1630) (by decide +kernel), List.mem_of_getElem? (i := 1631) (by decide +kernel)⟩
theorem lw_p45 : lw_okq (⟨"PartitionBenchModel", "readLock", "()Z"⟩, 26) := ⟨⟨by decide +kernel, by decide +kernel⟩, List.mem_of_getElem? (i := 1428) (by decide +kernel), List.mem_of_getElem? (i := 1635) (by decide +kernel), List.mem_of_getElem? (i := 1636) (by decide +kernel)⟩
theorem lw_p46 : lw_okq (⟨"PartitionBenchModel", "partsMany", "()I"⟩, 26) := ⟨⟨by decide +kernel, by decide +kernel⟩, List.mem_of_getElem? (i := 1428) (by decide +kernel), List.mem_of_getElem? (i := 1639) (by decide +kernel), List.mem_of_getElem? (i := 1640) (by decide +kernel)⟩
theorem lw_p47 : lw_okq (⟨"PartitionBenchModel", "fails", "(ZI)Z"⟩, 26) := ⟨⟨by decide +kernel, by decide +kernel⟩, List.mem_of_getElem? (i := 1428) (by decide +kernel), List.mem_of_getElem? (i := 1656) (by decide +kernel), List.mem_of_getElem? (i := 1657) (by decide +kernel)⟩
def lw_privs_3 : List (MethodName × Nat) := [(⟨"PartitionBenchModel", "takes", "(III)Z"⟩, 26), (⟨"PartitionBenchModel", "isNumber", "(II)Z"⟩, 26), (⟨"PartitionBenchModel", "passesSemicolon", "()Z"⟩, 26), (⟨"PartitionBenchModel", "readStatement", "()Z"⟩, 26), (⟨"PartitionBenchModel", "readSetting", "(IIII)Z"⟩, 26), (⟨"PartitionBenchModel", "readPart", "()Z"⟩, 26), (⟨"PartitionBenchModel", "isUsable", "(JJ)Z"⟩, 26), (⟨"PartitionBenchModel", "isTaken", "(JJI)Z"⟩, 26), (⟨"PartitionBenchModel", "of", "(II)I"⟩, 26), (⟨"PartitionBenchModel", "makes", "(IIII)I"⟩, 26), (⟨"PartitionBenchModel", "put", "(III)V"⟩, 26), (⟨"PartitionBenchModel", "writes", "(II)V"⟩, 26), (⟨"PartitionBenchModel", "numberOf", "(II)I"⟩, 26), (⟨"PartitionBenchModel", "readLock", "()Z"⟩, 26), (⟨"PartitionBenchModel", "partsMany", "()I"⟩, 26), (⟨"PartitionBenchModel", "fails", "(ZI)Z"⟩, 26)]
theorem lw_r3 : ∀ q ∈ lw_privs_3, lw_okq q := List.forall_mem_cons.mpr ⟨lw_p32, List.forall_mem_cons.mpr ⟨lw_p33, List.forall_mem_cons.mpr ⟨lw_p34, List.forall_mem_cons.mpr ⟨lw_p35, List.forall_mem_cons.mpr ⟨lw_p36, List.forall_mem_cons.mpr ⟨lw_p37, List.forall_mem_cons.mpr ⟨lw_p38, List.forall_mem_cons.mpr ⟨lw_p39, List.forall_mem_cons.mpr ⟨lw_p40, List.forall_mem_cons.mpr ⟨lw_p41, List.forall_mem_cons.mpr ⟨lw_p42, List.forall_mem_cons.mpr ⟨lw_p43, List.forall_mem_cons.mpr ⟨lw_p44, List.forall_mem_cons.mpr ⟨lw_p45, List.forall_mem_cons.mpr ⟨lw_p46, List.forall_mem_cons.mpr ⟨lw_p47, fun _ h => absurd h List.not_mem_nil⟩⟩⟩⟩⟩⟩⟩⟩⟩⟩⟩⟩⟩⟩⟩⟩
theorem lw_p48 : lw_okq (⟨"PartitionBenchModel", "gapSectors", "()I"⟩, 26) := ⟨⟨by decide +kernel, by decide +kernel⟩, List.mem_of_getElem? (i := 1428) (by decide +kernel), List.mem_of_getElem? (i := 1660) (by decide +kernel), List.mem_of_getElem? (i := 1661) (by decide +kernel)⟩
theorem lw_p49 : lw_okq (⟨"PartitionBenchModel", "laysGaps", "()V"⟩, 26) := ⟨⟨by decide +kernel, by decide +kernel⟩, List.mem_of_getElem? (i := 1428) (by decide +kernel), List.mem_of_getElem? (i := 1664) (by decide +kernel), List.mem_of_getElem? (i := 1665) (by decide +kernel)⟩
theorem lw_p50 : lw_okq (⟨"PartitionBenchModel", "isFree", "(I)Z"⟩, 26) := ⟨⟨by decide +kernel, by decide +kernel⟩, List.mem_of_getElem? (i := 1428) (by decide +kernel), List.mem_of_getElem? (i := 1668) (by decide +kernel), List.mem_of_getElem? (i := 1669) (by decide +kernel)⟩
theorem lw_p51 : lw_okq (⟨"PartitionBenchModel", "isBusy", "(JJ)Z"⟩, 26) := ⟨⟨by decide +kernel, by decide +kernel⟩, List.mem_of_getElem? (i := 1428) (by decide +kernel), List.mem_of_getElem? (i := 1672) (by decide +kernel), List.mem_of_getElem? (i := 1673) (by decide +kernel)⟩
theorem lw_p52 : lw_okq (⟨"PartitionBenchModel", "isMoving", "()Z"⟩, 26) := ⟨⟨by decide +kernel, by decide +kernel⟩, List.mem_of_getElem? (i := 1428) (by decide +kernel), List.mem_of_getElem? (i := 1676) (by decide +kernel), List.mem_of_getElem? (i := 1677) (by decide +kernel)⟩
theorem lw_p53 : lw_okq (⟨"PartitionBenchModel", "scratchSize", "()I"⟩, 26) := ⟨⟨by decide +kernel, by decide +kernel⟩, List.mem_of_getElem? (i := 1428) (by decide +kernel), List.mem_of_getElem? (i := 1680) (by decide +kernel), List.mem_of_getElem? (i := 1681) (by decide +kernel)⟩
theorem lw_p54 : lw_okq (⟨"PartitionBenchModel", "gapsNow", "()I"⟩, 26) := ⟨⟨by decide +kernel, by decide +kernel⟩, List.mem_of_getElem? (i := 1428) (by decide +kernel), List.mem_of_getElem? (i := 1685) (by decide +kernel), List.mem_of_getElem? (i := 1686) (by decide +kernel)⟩
theorem lw_p55 : lw_okq (⟨"PartitionBenchModel", "noPart", "(II)Z"⟩, 26) := ⟨⟨by decide +kernel, by decide +kernel⟩, List.mem_of_getElem? (i := 1428) (by decide +kernel), List.mem_of_getElem? (i := 1694) (by decide +kernel), List.mem_of_getElem? (i := 1695) (by decide +kernel)⟩
theorem lw_p56 : lw_okq (⟨"PartitionBenchModel", "stands", "(I)Z"⟩, 26) := ⟨⟨by decide +kernel, by decide +kernel⟩, List.mem_of_getElem? (i := 1428) (by decide +kernel), List.mem_of_getElem? (i := 1698) (by decide +kernel), List.mem_of_getElem? (i := 1699) (by decide +kernel)⟩
theorem lw_p57 : lw_okq (⟨"PartitionBenchModel", "noSector", "(I)Z"⟩, 26) := ⟨⟨by decide +kernel, by decide +kernel⟩, List.mem_of_getElem? (i := 1428) (by decide +kernel), List.mem_of_getElem? (i := 1707) (by decide +kernel), List.mem_of_getElem? (i := 1708) (by decide +kernel)⟩
theorem lw_p58 : lw_okq (⟨"PartitionBenchModel", "ownerOf", "(I)I"⟩, 26) := ⟨⟨by decide +kernel, by decide +kernel⟩, List.mem_of_getElem? (i := 1428) (by decide +kernel), List.mem_of_getElem? (i := 1715) (by decide +kernel), List.mem_of_getElem? (i := 1716) (by decide +kernel)⟩
theorem lw_p59 : lw_okq (⟨"PartitionBenchModel", "placeOf", "(II)I"⟩, 26) := ⟨⟨by decide +kernel, by decide +kernel⟩, List.mem_of_getElem? (i := 1428) (by decide +kernel), List.mem_of_getElem? (i := 1719) (by decide +kernel), List.mem_of_getElem? (i := 1720) (by decide +kernel)⟩
theorem lw_p60 : lw_okq (⟨"PartitionBenchModel", "isMoved", "(I)Z"⟩, 26) := ⟨⟨by decide +kernel, by decide +kernel⟩, List.mem_of_getElem? (i := 1428) (by decide +kernel), List.mem_of_getElem? (i := 1723) (by decide +kernel), List.mem_of_getElem? (i := 1724) (by decide +kernel)⟩
theorem lw_p61 : lw_okq (⟨"PartitionBenchModel", "isChunkMoved", "(I)Z"⟩, 26) := ⟨⟨by decide +kernel, by decide +kernel⟩, List.mem_of_getElem? (i := 1428) (by decide +kernel), List.mem_of_getElem? (i := 1727) (by decide +kernel), List.mem_of_getElem? (i := 1728) (by decide +kernel)⟩
theorem lw_p62 : lw_okq (⟨"PartitionBenchModel", "isAscending", "()Z"⟩, 26) := ⟨⟨by decide +kernel, by decide +kernel⟩, List.mem_of_getElem? (i := 1428) (by decide +kernel), List.mem_of_getElem? (i := 1731) (by decide +kernel), List.mem_of_getElem? (i := 1732) (by decide +kernel)⟩
theorem lw_p63 : lw_okq (⟨"PartitionBenchModel", "chunks", "()I"⟩, 26) := ⟨⟨by decide +kernel, by decide +kernel⟩, List.mem_of_getElem? (i := 1428) (by decide +kernel), List.mem_of_getElem? (i := 1735) (by decide +kernel), List.mem_of_getElem? (i := 1736) (by decide +kernel)⟩
def lw_privs_4 : List (MethodName × Nat) := [(⟨"PartitionBenchModel", "gapSectors", "()I"⟩, 26), (⟨"PartitionBenchModel", "laysGaps", "()V"⟩, 26), (⟨"PartitionBenchModel", "isFree", "(I)Z"⟩, 26), (⟨"PartitionBenchModel", "isBusy", "(JJ)Z"⟩, 26), (⟨"PartitionBenchModel", "isMoving", "()Z"⟩, 26), (⟨"PartitionBenchModel", "scratchSize", "()I"⟩, 26), (⟨"PartitionBenchModel", "gapsNow", "()I"⟩, 26), (⟨"PartitionBenchModel", "noPart", "(II)Z"⟩, 26), (⟨"PartitionBenchModel", "stands", "(I)Z"⟩, 26), (⟨"PartitionBenchModel", "noSector", "(I)Z"⟩, 26), (⟨"PartitionBenchModel", "ownerOf", "(I)I"⟩, 26), (⟨"PartitionBenchModel", "placeOf", "(II)I"⟩, 26), (⟨"PartitionBenchModel", "isMoved", "(I)Z"⟩, 26), (⟨"PartitionBenchModel", "isChunkMoved", "(I)Z"⟩, 26), (⟨"PartitionBenchModel", "isAscending", "()Z"⟩, 26), (⟨"PartitionBenchModel", "chunks", "()I"⟩, 26)]
theorem lw_r4 : ∀ q ∈ lw_privs_4, lw_okq q := List.forall_mem_cons.mpr ⟨lw_p48, List.forall_mem_cons.mpr ⟨lw_p49, List.forall_mem_cons.mpr ⟨lw_p50, List.forall_mem_cons.mpr ⟨lw_p51, List.forall_mem_cons.mpr ⟨lw_p52, List.forall_mem_cons.mpr ⟨lw_p53, List.forall_mem_cons.mpr ⟨lw_p54, List.forall_mem_cons.mpr ⟨lw_p55, List.forall_mem_cons.mpr ⟨lw_p56, List.forall_mem_cons.mpr ⟨lw_p57, List.forall_mem_cons.mpr ⟨lw_p58, List.forall_mem_cons.mpr ⟨lw_p59, List.forall_mem_cons.mpr ⟨lw_p60, List.forall_mem_cons.mpr ⟨lw_p61, List.forall_mem_cons.mpr ⟨lw_p62, List.forall_mem_cons.mpr ⟨lw_p63, fun _ h => absurd h List.not_mem_nil⟩⟩⟩⟩⟩⟩⟩⟩⟩⟩⟩⟩⟩⟩⟩⟩
theorem lw_p64 : lw_okq (⟨"PartitionBenchModel", "nextChunk", "()I"⟩, 26) := ⟨⟨by decide +kernel, by decide +kernel⟩, List.mem_of_getElem? (i := 1428) (by decide +kernel), List.mem_of_getElem? (i := 1742) (by decide +kernel), List.mem_of_getElem? (i := 1743) (by decide +kernel)⟩
theorem lw_p65 : lw_okq (⟨"PartitionBenchModel", "firstBlock", "()I"⟩, 26) := ⟨⟨by decide +kernel, by decide +kernel⟩, List.mem_of_getElem? (i := 1428) (by decide +kernel), List.mem_of_getElem? (i := 1746) (by decide +kernel), List.mem_of_getElem? (i := 1747) (by decide +kernel)⟩
theorem lw_p66 : lw_okq (⟨"PartitionBenchModel", "whole", "(I)Z"⟩, 26) := ⟨⟨by decide +kernel, by decide +kernel⟩, List.mem_of_getElem? (i := 1428) (by decide +kernel), List.mem_of_getElem? (i := 1758) (by decide +kernel), List.mem_of_getElem? (i := 1759) (by decide +kernel)⟩
theorem lw_p67 : lw_okq (⟨"PartitionBenchModel", "standsAt", "(I)I"⟩, 26) := ⟨⟨by decide +kernel, by decide +kernel⟩, List.mem_of_getElem? (i := 1428) (by decide +kernel), List.mem_of_getElem? (i := 1770) (by decide +kernel), List.mem_of_getElem? (i := 1771) (by decide +kernel)⟩
theorem lw_p68 : lw_okq (⟨"PartitionBenchModel", "nextBy", "(I)I"⟩, 26) := ⟨⟨by decide +kernel, by decide +kernel⟩, List.mem_of_getElem? (i := 1428) (by decide +kernel), List.mem_of_getElem? (i := 1774) (by decide +kernel), List.mem_of_getElem? (i := 1775) (by decide +kernel)⟩
theorem lw_p69 : lw_okq (⟨"PartitionBenchModel", "roomSize", "(I)I"⟩, 26) := ⟨⟨by decide +kernel, by decide +kernel⟩, List.mem_of_getElem? (i := 1428) (by decide +kernel), List.mem_of_getElem? (i := 1787) (by decide +kernel), List.mem_of_getElem? (i := 1788) (by decide +kernel)⟩
theorem lw_p70 : lw_okq (⟨"PartitionBenchModel", "roomStart", "(I)I"⟩, 26) := ⟨⟨by decide +kernel, by decide +kernel⟩, List.mem_of_getElem? (i := 1428) (by decide +kernel), List.mem_of_getElem? (i := 1791) (by decide +kernel), List.mem_of_getElem? (i := 1792) (by decide +kernel)⟩
theorem lw_p71 : lw_okq (⟨"PartitionBenchModel", "greatestGap", "()I"⟩, 26) := ⟨⟨by decide +kernel, by decide +kernel⟩, List.mem_of_getElem? (i := 1428) (by decide +kernel), List.mem_of_getElem? (i := 1800) (by decide +kernel), List.mem_of_getElem? (i := 1801) (by decide +kernel)⟩
theorem lw_p72 : lw_okq (⟨"PartitionBenchModel", "fits", "(II)I"⟩, 26) := ⟨⟨by decide +kernel, by decide +kernel⟩, List.mem_of_getElem? (i := 1428) (by decide +kernel), List.mem_of_getElem? (i := 1813) (by decide +kernel), List.mem_of_getElem? (i := 1814) (by decide +kernel)⟩
theorem lw_p73 : lw_okq (⟨"PartitionBenchModel", "whyNot", "(II)I"⟩, 26) := ⟨⟨by decide +kernel, by decide +kernel⟩, List.mem_of_getElem? (i := 1428) (by decide +kernel), List.mem_of_getElem? (i := 1821) (by decide +kernel), List.mem_of_getElem? (i := 1822) (by decide +kernel)⟩
theorem lw_p74 : lw_okq (⟨"PartitionBenchModel", "sizes", "()I"⟩, 26) := ⟨⟨by decide +kernel, by decide +kernel⟩, List.mem_of_getElem? (i := 1428) (by decide +kernel), List.mem_of_getElem? (i := 1841) (by decide +kernel), List.mem_of_getElem? (i := 1842) (by decide +kernel)⟩
theorem lw_p75 : lw_okq (⟨"PartitionBenchModel", "slackOf", "(I)I"⟩, 26) := ⟨⟨by decide +kernel, by decide +kernel⟩, List.mem_of_getElem? (i := 1428) (by decide +kernel), List.mem_of_getElem? (i := 1849) (by decide +kernel), List.mem_of_getElem? (i := 1850) (by decide +kernel)⟩
theorem lw_p76 : lw_okq (⟨"PartitionBenchModel", "isFixed", "(I)Z"⟩, 26) := ⟨⟨by decide +kernel, by decide +kernel⟩, List.mem_of_getElem? (i := 1428) (by decide +kernel), List.mem_of_getElem? (i := 1853) (by decide +kernel), List.mem_of_getElem? (i := 1854) (by decide +kernel)⟩
theorem lw_p77 : lw_okq (⟨"PartitionBenchModel", "remembers", "()V"⟩, 26) := ⟨⟨by decide +kernel, by decide +kernel⟩, List.mem_of_getElem? (i := 1428) (by decide +kernel), List.mem_of_getElem? (i := 1869) (by decide +kernel), List.mem_of_getElem? (i := 1870) (by decide +kernel)⟩
theorem lw_p78 : lw_okq (⟨"PartitionBenchModel", "whyNotResized", "(II)I"⟩, 26) := ⟨⟨by decide +kernel, by decide +kernel⟩, List.mem_of_getElem? (i := 1428) (by decide +kernel), List.mem_of_getElem? (i := 1889) (by decide +kernel), List.mem_of_getElem? (i := 1890) (by decide +kernel)⟩
theorem lw_p79 : lw_okq (⟨"PartitionBenchModel", "whyNotSized", "(II)I"⟩, 26) := ⟨⟨by decide +kernel, by decide +kernel⟩, List.mem_of_getElem? (i := 1428) (by decide +kernel), List.mem_of_getElem? (i := 1893) (by decide +kernel), List.mem_of_getElem? (i := 1894) (by decide +kernel)⟩
def lw_privs_5 : List (MethodName × Nat) := [(⟨"PartitionBenchModel", "nextChunk", "()I"⟩, 26), (⟨"PartitionBenchModel", "firstBlock", "()I"⟩, 26), (⟨"PartitionBenchModel", "whole", "(I)Z"⟩, 26), (⟨"PartitionBenchModel", "standsAt", "(I)I"⟩, 26), (⟨"PartitionBenchModel", "nextBy", "(I)I"⟩, 26), (⟨"PartitionBenchModel", "roomSize", "(I)I"⟩, 26), (⟨"PartitionBenchModel", "roomStart", "(I)I"⟩, 26), (⟨"PartitionBenchModel", "greatestGap", "()I"⟩, 26), (⟨"PartitionBenchModel", "fits", "(II)I"⟩, 26), (⟨"PartitionBenchModel", "whyNot", "(II)I"⟩, 26), (⟨"PartitionBenchModel", "sizes", "()I"⟩, 26), (⟨"PartitionBenchModel", "slackOf", "(I)I"⟩, 26), (⟨"PartitionBenchModel", "isFixed", "(I)Z"⟩, 26), (⟨"PartitionBenchModel", "remembers", "()V"⟩, 26), (⟨"PartitionBenchModel", "whyNotResized", "(II)I"⟩, 26), (⟨"PartitionBenchModel", "whyNotSized", "(II)I"⟩, 26)]
theorem lw_r5 : ∀ q ∈ lw_privs_5, lw_okq q := List.forall_mem_cons.mpr ⟨lw_p64, List.forall_mem_cons.mpr ⟨lw_p65, List.forall_mem_cons.mpr ⟨lw_p66, List.forall_mem_cons.mpr ⟨lw_p67, List.forall_mem_cons.mpr ⟨lw_p68, List.forall_mem_cons.mpr ⟨lw_p69, List.forall_mem_cons.mpr ⟨lw_p70, List.forall_mem_cons.mpr ⟨lw_p71, List.forall_mem_cons.mpr ⟨lw_p72, List.forall_mem_cons.mpr ⟨lw_p73, List.forall_mem_cons.mpr ⟨lw_p74, List.forall_mem_cons.mpr ⟨lw_p75, List.forall_mem_cons.mpr ⟨lw_p76, List.forall_mem_cons.mpr ⟨lw_p77, List.forall_mem_cons.mpr ⟨lw_p78, List.forall_mem_cons.mpr ⟨lw_p79, fun _ h => absurd h List.not_mem_nil⟩⟩⟩⟩⟩⟩⟩⟩⟩⟩⟩⟩⟩⟩⟩⟩
theorem lw_p80 : lw_okq (⟨"PartitionBenchModel", "resizes", "(II)V"⟩, 26) := ⟨⟨by decide +kernel, by decide +kernel⟩, List.mem_of_getElem? (i := 1428) (by decide +kernel), List.mem_of_getElem? (i := 1901) (by decide +kernel), List.mem_of_getElem? (i := 1902) (by decide +kernel)⟩
theorem lw_p81 : lw_okq (⟨"PartitionBenchModel", "canJoin", "(I)Z"⟩, 26) := ⟨⟨by decide +kernel, by decide +kernel⟩, List.mem_of_getElem? (i := 1428) (by decide +kernel), List.mem_of_getElem? (i := 1925) (by decide +kernel), List.mem_of_getElem? (i := 1926) (by decide +kernel)⟩
theorem lw_p82 : lw_okq (⟨"PartitionBenchModel", "neighbour", "(I)I"⟩, 26) := ⟨⟨by decide +kernel, by decide +kernel⟩, List.mem_of_getElem? (i := 1428) (by decide +kernel), List.mem_of_getElem? (i := 1929) (by decide +kernel), List.mem_of_getElem? (i := 1930) (by decide +kernel)⟩
theorem lw_p83 : lw_okq (⟨"PartitionBenchModel", "whyNotMoved", "(II)I"⟩, 26) := ⟨⟨by decide +kernel, by decide +kernel⟩, List.mem_of_getElem? (i := 1428) (by decide +kernel), List.mem_of_getElem? (i := 1951) (by decide +kernel), List.mem_of_getElem? (i := 1952) (by decide +kernel)⟩
theorem lw_p84 : lw_okq (⟨"PartitionBenchModel", "scratchFor", "(III)I"⟩, 26) := ⟨⟨by decide +kernel, by decide +kernel⟩, List.mem_of_getElem? (i := 1428) (by decide +kernel), List.mem_of_getElem? (i := 1958) (by decide +kernel), List.mem_of_getElem? (i := 1959) (by decide +kernel)⟩
theorem lw_p85 : lw_okq (⟨"PartitionBenchModel", "stepsBy", "(II)I"⟩, 26) := ⟨⟨by decide +kernel, by decide +kernel⟩, List.mem_of_getElem? (i := 1428) (by decide +kernel), List.mem_of_getElem? (i := 1966) (by decide +kernel), List.mem_of_getElem? (i := 1967) (by decide +kernel)⟩
theorem lw_p86 : lw_okq (⟨"PartitionBenchModel", "starts", "(II)V"⟩, 26) := ⟨⟨by decide +kernel, by decide +kernel⟩, List.mem_of_getElem? (i := 1428) (by decide +kernel), List.mem_of_getElem? (i := 1977) (by decide +kernel), List.mem_of_getElem? (i := 1978) (by decide +kernel)⟩
theorem lw_p87 : lw_okq (⟨"PartitionBenchModel", "stepsLeft", "()I"⟩, 26) := ⟨⟨by decide +kernel, by decide +kernel⟩, List.mem_of_getElem? (i := 1428) (by decide +kernel), List.mem_of_getElem? (i := 1981) (by decide +kernel), List.mem_of_getElem? (i := 1982) (by decide +kernel)⟩
theorem lw_p88 : lw_okq (⟨"PartitionBenchModel", "distance", "()I"⟩, 26) := ⟨⟨by decide +kernel, by decide +kernel⟩, List.mem_of_getElem? (i := 1428) (by decide +kernel), List.mem_of_getElem? (i := 1985) (by decide +kernel), List.mem_of_getElem? (i := 1986) (by decide +kernel)⟩
theorem lw_p89 : lw_okq (⟨"PartitionBenchModel", "runs", "(I)I"⟩, 26) := ⟨⟨by decide +kernel, by decide +kernel⟩, List.mem_of_getElem? (i := 1428) (by decide +kernel), List.mem_of_getElem? (i := 1994) (by decide +kernel), List.mem_of_getElem? (i := 1995) (by decide +kernel)⟩
theorem lw_p90 : lw_okq (⟨"PartitionBenchModel", "step", "()V"⟩, 26) := ⟨⟨by decide +kernel, by decide +kernel⟩, List.mem_of_getElem? (i := 1428) (by decide +kernel), List.mem_of_getElem? (i := 1998) (by decide +kernel), List.mem_of_getElem? (i := 1999) (by decide +kernel)⟩
theorem lw_p91 : lw_okq (⟨"PartitionBenchModel", "stepKind", "()I"⟩, 26) := ⟨⟨by decide +kernel, by decide +kernel⟩, List.mem_of_getElem? (i := 1428) (by decide +kernel), List.mem_of_getElem? (i := 2002) (by decide +kernel), List.mem_of_getElem? (i := 2003) (by decide +kernel)⟩
theorem lw_p92 : lw_okq (⟨"PartitionBenchModel", "blocksNext", "()I"⟩, 26) := ⟨⟨by decide +kernel, by decide +kernel⟩, List.mem_of_getElem? (i := 1428) (by decide +kernel), List.mem_of_getElem? (i := 2006) (by decide +kernel), List.mem_of_getElem? (i := 2007) (by decide +kernel)⟩
theorem lw_p93 : lw_okq (⟨"PartitionBenchModel", "copiesBlocks", "(I)V"⟩, 26) := ⟨⟨by decide +kernel, by decide +kernel⟩, List.mem_of_getElem? (i := 1428) (by decide +kernel), List.mem_of_getElem? (i := 2010) (by decide +kernel), List.mem_of_getElem? (i := 2011) (by decide +kernel)⟩
theorem lw_p94 : lw_okq (⟨"PartitionBenchModel", "targetOf", "(I)I"⟩, 26) := ⟨⟨by decide +kernel, by decide +kernel⟩, List.mem_of_getElem? (i := 1428) (by decide +kernel), List.mem_of_getElem? (i := 2014) (by decide +kernel), List.mem_of_getElem? (i := 2015) (by decide +kernel)⟩
theorem lw_p95 : lw_okq (⟨"PartitionBenchModel", "sourceOf", "(I)I"⟩, 26) := ⟨⟨by decide +kernel, by decide +kernel⟩, List.mem_of_getElem? (i := 1428) (by decide +kernel), List.mem_of_getElem? (i := 2018) (by decide +kernel), List.mem_of_getElem? (i := 2019) (by decide +kernel)⟩
def lw_privs_6 : List (MethodName × Nat) := [(⟨"PartitionBenchModel", "resizes", "(II)V"⟩, 26), (⟨"PartitionBenchModel", "canJoin", "(I)Z"⟩, 26), (⟨"PartitionBenchModel", "neighbour", "(I)I"⟩, 26), (⟨"PartitionBenchModel", "whyNotMoved", "(II)I"⟩, 26), (⟨"PartitionBenchModel", "scratchFor", "(III)I"⟩, 26), (⟨"PartitionBenchModel", "stepsBy", "(II)I"⟩, 26), (⟨"PartitionBenchModel", "starts", "(II)V"⟩, 26), (⟨"PartitionBenchModel", "stepsLeft", "()I"⟩, 26), (⟨"PartitionBenchModel", "distance", "()I"⟩, 26), (⟨"PartitionBenchModel", "runs", "(I)I"⟩, 26), (⟨"PartitionBenchModel", "step", "()V"⟩, 26), (⟨"PartitionBenchModel", "stepKind", "()I"⟩, 26), (⟨"PartitionBenchModel", "blocksNext", "()I"⟩, 26), (⟨"PartitionBenchModel", "copiesBlocks", "(I)V"⟩, 26), (⟨"PartitionBenchModel", "targetOf", "(I)I"⟩, 26), (⟨"PartitionBenchModel", "sourceOf", "(I)I"⟩, 26)]
theorem lw_r6 : ∀ q ∈ lw_privs_6, lw_okq q := List.forall_mem_cons.mpr ⟨lw_p80, List.forall_mem_cons.mpr ⟨lw_p81, List.forall_mem_cons.mpr ⟨lw_p82, List.forall_mem_cons.mpr ⟨lw_p83, List.forall_mem_cons.mpr ⟨lw_p84, List.forall_mem_cons.mpr ⟨lw_p85, List.forall_mem_cons.mpr ⟨lw_p86, List.forall_mem_cons.mpr ⟨lw_p87, List.forall_mem_cons.mpr ⟨lw_p88, List.forall_mem_cons.mpr ⟨lw_p89, List.forall_mem_cons.mpr ⟨lw_p90, List.forall_mem_cons.mpr ⟨lw_p91, List.forall_mem_cons.mpr ⟨lw_p92, List.forall_mem_cons.mpr ⟨lw_p93, List.forall_mem_cons.mpr ⟨lw_p94, List.forall_mem_cons.mpr ⟨lw_p95, fun _ h => absurd h List.not_mem_nil⟩⟩⟩⟩⟩⟩⟩⟩⟩⟩⟩⟩⟩⟩⟩⟩
theorem lw_p96 : lw_okq (⟨"PartitionBenchModel", "leftOf", "(I)I"⟩, 26) := ⟨⟨by decide +kernel, by decide +kernel⟩, List.mem_of_getElem? (i := 1428) (by decide +kernel), List.mem_of_getElem? (i := 2055) (by decide +kernel), List.mem_of_getElem? (i := 2056) (by decide +kernel)⟩
theorem lw_p97 : lw_okq (⟨"PartitionBenchModel", "rightOf", "(I)I"⟩, 26) := ⟨⟨by decide +kernel, by decide +kernel⟩, List.mem_of_getElem? (i := 1428) (by decide +kernel), List.mem_of_getElem? (i := 2063) (by decide +kernel), List.mem_of_getElem? (i := 2064) (by decide +kernel)⟩
theorem lw_p98 : lw_okq (⟨"PartitionBenchModel", "compacts", "()I"⟩, 26) := ⟨⟨by decide +kernel, by decide +kernel⟩, List.mem_of_getElem? (i := 1428) (by decide +kernel), List.mem_of_getElem? (i := 2071) (by decide +kernel), List.mem_of_getElem? (i := 2072) (by decide +kernel)⟩
theorem lw_p99 : lw_okq (⟨"PartitionBenchModel", "begins", "()V"⟩, 26) := ⟨⟨by decide +kernel, by decide +kernel⟩, List.mem_of_getElem? (i := 1428) (by decide +kernel), List.mem_of_getElem? (i := 2079) (by decide +kernel), List.mem_of_getElem? (i := 2080) (by decide +kernel)⟩
theorem lw_p100 : lw_okq (⟨"PartitionBenchModel", "ends", "()V"⟩, 26) := ⟨⟨by decide +kernel, by decide +kernel⟩, List.mem_of_getElem? (i := 1428) (by decide +kernel), List.mem_of_getElem? (i := 2083) (by decide +kernel), List.mem_of_getElem? (i := 2084) (by decide +kernel)⟩
theorem lw_p101 : lw_okq (⟨"PartitionBenchModel", "mostRoom", "()I"⟩, 26) := ⟨⟨by decide +kernel, by decide +kernel⟩, List.mem_of_getElem? (i := 1428) (by decide +kernel), List.mem_of_getElem? (i := 2092) (by decide +kernel), List.mem_of_getElem? (i := 2093) (by decide +kernel)⟩
theorem lw_p102 : lw_okq (⟨"PartitionBenchModel", "brings", "(III)Z"⟩, 26) := ⟨⟨by decide +kernel, by decide +kernel⟩, List.mem_of_getElem? (i := 1428) (by decide +kernel), List.mem_of_getElem? (i := 2096) (by decide +kernel), List.mem_of_getElem? (i := 2097) (by decide +kernel)⟩
theorem lw_p103 : lw_okq (⟨"PartitionBenchModel", "write", "(I)V"⟩, 26) := ⟨⟨by decide +kernel, by decide +kernel⟩, List.mem_of_getElem? (i := 1428) (by decide +kernel), List.mem_of_getElem? (i := 2108) (by decide +kernel), List.mem_of_getElem? (i := 2109) (by decide +kernel)⟩
theorem lw_p104 : lw_okq (⟨"PartitionBenchModel", "writePart", "(I)V"⟩, 26) := ⟨⟨by decide +kernel, by decide +kernel⟩, List.mem_of_getElem? (i := 1428) (by decide +kernel), List.mem_of_getElem? (i := 2112) (by decide +kernel), List.mem_of_getElem? (i := 2113) (by decide +kernel)⟩
theorem lw_p105 : lw_okq (⟨"PartitionBenchModel", "writeNumber", "(I)V"⟩, 26) := ⟨⟨by decide +kernel, by decide +kernel⟩, List.mem_of_getElem? (i := 1428) (by decide +kernel), List.mem_of_getElem? (i := 2116) (by decide +kernel), List.mem_of_getElem? (i := 2117) (by decide +kernel)⟩
def lw_privs_7 : List (MethodName × Nat) := [(⟨"PartitionBenchModel", "leftOf", "(I)I"⟩, 26), (⟨"PartitionBenchModel", "rightOf", "(I)I"⟩, 26), (⟨"PartitionBenchModel", "compacts", "()I"⟩, 26), (⟨"PartitionBenchModel", "begins", "()V"⟩, 26), (⟨"PartitionBenchModel", "ends", "()V"⟩, 26), (⟨"PartitionBenchModel", "mostRoom", "()I"⟩, 26), (⟨"PartitionBenchModel", "brings", "(III)Z"⟩, 26), (⟨"PartitionBenchModel", "write", "(I)V"⟩, 26), (⟨"PartitionBenchModel", "writePart", "(I)V"⟩, 26), (⟨"PartitionBenchModel", "writeNumber", "(I)V"⟩, 26)]
theorem lw_r7 : ∀ q ∈ lw_privs_7, lw_okq q := List.forall_mem_cons.mpr ⟨lw_p96, List.forall_mem_cons.mpr ⟨lw_p97, List.forall_mem_cons.mpr ⟨lw_p98, List.forall_mem_cons.mpr ⟨lw_p99, List.forall_mem_cons.mpr ⟨lw_p100, List.forall_mem_cons.mpr ⟨lw_p101, List.forall_mem_cons.mpr ⟨lw_p102, List.forall_mem_cons.mpr ⟨lw_p103, List.forall_mem_cons.mpr ⟨lw_p104, List.forall_mem_cons.mpr ⟨lw_p105, fun _ h => absurd h List.not_mem_nil⟩⟩⟩⟩⟩⟩⟩⟩⟩⟩
def lw_privs : List (MethodName × Nat) := lw_privs_1 ++ (lw_privs_2 ++ (lw_privs_3 ++ (lw_privs_4 ++ (lw_privs_5 ++ (lw_privs_6 ++ (lw_privs_7))))))
def lw_tbl : List Cond := k2_sels lw_privs ++ tables_1
theorem lw_privs_ok : ∀ q ∈ lw_privs, lw_okq q := by
  show ∀ q ∈ lw_privs_1 ++ (lw_privs_2 ++ (lw_privs_3 ++ (lw_privs_4 ++ (lw_privs_5 ++ (lw_privs_6 ++ (lw_privs_7)))))), lw_okq q
  exact List.forall_mem_append.mpr ⟨lw_r1, List.forall_mem_append.mpr ⟨lw_r2, List.forall_mem_append.mpr ⟨lw_r3, List.forall_mem_append.mpr ⟨lw_r4, List.forall_mem_append.mpr ⟨lw_r5, List.forall_mem_append.mpr ⟨lw_r6, lw_r7⟩⟩⟩⟩⟩⟩
/-- the streams that the claim lets the run draw from -/
abbrev lw_cs : List Choice := [Jvm.Choice.named "NaN.bits"]
theorem lw_bits : nanBits ∈ lw_cs := by first | decide | exact List.mem_cons_self | simp [lw_cs, nanBits]
-- ===== end of PART A; then your names; then what follows =====
end
section
/-! RI: a run of bytecode over closed data (a table of code, values that are constants, arguments or sums of such, references by numbers), and that it is sound for W. This part: values, and the instructions that touch neither heap nor course. -/
section RIA
def ri_gI : Value → Int32
  | .int x => x
  | _ => 0
def ri_gL : Value → Int64
  | .long x => x
  | _ => 0
def ri_gR : Value → Option Nat
  | .ref a => some a
  | _ => none
def ri_b32 (o : Binary) (x y : Int32) : Int32 := match o with
  | .iand => x &&& y
  | .ior => x ||| y
  | .ixor => x ^^^ y
  | .ishl => x <<< (y &&& 31)
  | .ishr => x >>> (y &&& 31)
  | .iushr => (x.toUInt32 >>> (y.toUInt32 &&& Int32.toUInt32 31)).toInt32
  | _ => 0
def ri_b64 (o : Binary) (x y : Int64) : Int64 := match o with
  | .ladd => x + y
  | .lsub => x - y
  | .lmul => x * y
  | .land => x &&& y
  | .lor => x ||| y
  | .lxor => x ^^^ y
  | _ => 0
/-- of what sort an answer is: 0 int, 1 long, 9 none -/
def ri_ko : Binary → Nat
  | .iand => 0 | .ior => 0 | .ixor => 0 | .ishl => 0 | .ishr => 0 | .iushr => 0
  | .ladd => 1 | .lsub => 1 | .lmul => 1 | .land => 1 | .lor => 1 | .lxor => 1
  | .lcmp => 2
  | _ => 9
def ri_cv (ρ : Nat → Int32) (sa : String → Nat → Nat) (ad : Nat → Nat) : Jvm.Term → Value
  | .arg i => .int (ρ i)
  | .int v => .int v
  | .long v => .long v
  | .null => .null
  | .index k => .ref (ad k)
  | .string c i => .ref (sa c i)
  | .add a b => .int (ri_gI (ri_cv ρ sa ad a) + ri_gI (ri_cv ρ sa ad b))
  | .sub a b => .int (ri_gI (ri_cv ρ sa ad a) - ri_gI (ri_cv ρ sa ad b))
  | .mul a b => .int (ri_gI (ri_cv ρ sa ad a) * ri_gI (ri_cv ρ sa ad b))
  | .div a b => .int (ri_gI (ri_cv ρ sa ad a) / ri_gI (ri_cv ρ sa ad b))
  | .rem a b => .int (ri_gI (ri_cv ρ sa ad a) - ri_gI (ri_cv ρ sa ad a) / ri_gI (ri_cv ρ sa ad b) * ri_gI (ri_cv ρ sa ad b))
  | .op2 o a b => match ri_ko o with
    | 0 => .int (ri_b32 o (ri_gI (ri_cv ρ sa ad a)) (ri_gI (ri_cv ρ sa ad b)))
    | 1 => .long (ri_b64 o (ri_gL (ri_cv ρ sa ad a)) (ri_gL (ri_cv ρ sa ad b)))
    | 2 => .int (lg_cmp (ri_gL (ri_cv ρ sa ad a)) (ri_gL (ri_cv ρ sa ad b)))
    | _ => .retAddr 0
  | .op1 o a => match o with
    | .ineg => .int (-ri_gI (ri_cv ρ sa ad a))
    | .i2l => .long (ri_gI (ri_cv ρ sa ad a)).toInt64
    | .l2i => .int (ri_gL (ri_cv ρ sa ad a)).toInt32
    | .bitsD => .double (ri_gL (ri_cv ρ sa ad a)).toUInt64
    | .bitsF => .float (ri_gI (ri_cv ρ sa ad a)).toUInt32
    | _ => .retAddr 0
  | _ => .retAddr 0
/-- 0 int, 1 long, 2 a reference, 3 null, 4 double, 5 float, 9 none -/
def ri_k : Jvm.Term → Nat
  | .arg _ => 0
  | .int _ => 0
  | .long _ => 1
  | .null => 3
  | .index _ => 2
  | .string _ _ => 2
  | .add _ _ => 0
  | .sub _ _ => 0
  | .mul _ _ => 0
  | .div _ _ => 0
  | .rem _ _ => 0
  | .op2 o _ _ => match ri_ko o with
    | 0 => 0
    | 1 => 1
    | 2 => 0
    | _ => 9
  | .op1 o _ => match o with
    | .ineg => 0
    | .i2l => 1
    | .l2i => 0
    | .bitsD => 4
    | .bitsF => 5
    | _ => 9
  | _ => 9
def ri_wide (t : Jvm.Term) : Bool := ri_k t == 1 || ri_k t == 4
section RIB
variable {ρ : Nat → Int32} {sa : String → Nat → Nat} {ad ad' : Nat → Nat}
/-- what a value is, by its sort -/
def ri_is (k : Nat) (v : Value) : Prop := (k = 0 → v = .int (ri_gI v)) ∧ (k = 1 → v = .long (ri_gL v)) ∧ (k = 2 → ∃ a, v = .ref a) ∧ (k = 3 → v = .null) ∧ (k = 4 → ∃ b, v = .double b) ∧ (k = 5 → ∃ b, v = .float b) ∧ (v.category = 2 → k = 1 ∨ k = 4) ∧ ((k = 1 ∨ k = 4) → v.category = 2)
theorem ri_is_i (x : Int32) : ri_is 0 (.int x) := by
  refine ⟨fun _ => rfl, ?_, ?_, ?_, ?_, ?_, ?_, ?_⟩ <;> intro h <;> first | (cases h; done) | (rcases h with h | h <;> cases h)
theorem ri_is_l (x : Int64) : ri_is 1 (.long x) := by
  refine ⟨?_, fun _ => rfl, ?_, ?_, ?_, ?_, fun _ => Or.inl rfl, fun _ => rfl⟩ <;> intro h <;> first | (cases h; done) | (rcases h with h | h <;> cases h)
theorem ri_is_r (x : Nat) : ri_is 2 (.ref x) := by
  refine ⟨?_, ?_, fun _ => ⟨_, rfl⟩, ?_, ?_, ?_, ?_, ?_⟩ <;> intro h <;> first | (cases h; done) | (rcases h with h | h <;> cases h)
theorem ri_is_n : ri_is 3 .null := by
  refine ⟨?_, ?_, ?_, fun _ => rfl, ?_, ?_, ?_, ?_⟩ <;> intro h <;> first | (cases h; done) | (rcases h with h | h <;> cases h)
theorem ri_is_d (x : UInt64) : ri_is 4 (.double x) := by
  refine ⟨?_, ?_, ?_, ?_, fun _ => ⟨_, rfl⟩, ?_, fun _ => Or.inr rfl, fun _ => rfl⟩ <;> intro h <;> first | (cases h; done) | (rcases h with h | h <;> cases h)
theorem ri_is_f (x : UInt32) : ri_is 5 (.float x) := by
  refine ⟨?_, ?_, ?_, ?_, ?_, fun _ => ⟨_, rfl⟩, ?_, ?_⟩ <;> intro h <;> first | (cases h; done) | (rcases h with h | h <;> cases h)
theorem ri_is_9 : ri_is 9 (.retAddr 0) := by
  refine ⟨?_, ?_, ?_, ?_, ?_, ?_, ?_, ?_⟩ <;> intro h <;> first | (cases h; done) | (rcases h with h | h <;> cases h)
theorem ri_cv_is (t : Jvm.Term) : ri_is (ri_k t) (ri_cv ρ sa ad t) := by
  cases t with
  | op2 o a b => cases o <;> first | exact ri_is_i _ | exact ri_is_l _ | exact ri_is_9
  | op1 o a => cases o <;> first | exact ri_is_i _ | exact ri_is_l _ | exact ri_is_d _ | exact ri_is_f _ | exact ri_is_9
  | _ => first | exact ri_is_i _ | exact ri_is_l _ | exact ri_is_r _ | exact ri_is_n | exact ri_is_9
theorem ri_I {t : Jvm.Term} (h : ri_k t = 0) : ri_cv ρ sa ad t = .int (ri_gI (ri_cv ρ sa ad t)) := (ri_cv_is t).1 h
theorem ri_L {t : Jvm.Term} (h : ri_k t = 1) : ri_cv ρ sa ad t = .long (ri_gL (ri_cv ρ sa ad t)) := (ri_cv_is t).2.1 h
theorem ri_R {t : Jvm.Term} (h : ri_k t = 2) : ∃ a, ri_cv ρ sa ad t = .ref a := (ri_cv_is t).2.2.1 h
theorem ri_N {t : Jvm.Term} (h : ri_k t = 3) : ri_cv ρ sa ad t = .null := (ri_cv_is t).2.2.2.1 h
theorem ri_Dd {t : Jvm.Term} (h : ri_k t = 4) : ∃ b, ri_cv ρ sa ad t = .double b := (ri_cv_is t).2.2.2.2.1 h
theorem ri_Ff {t : Jvm.Term} (h : ri_k t = 5) : ∃ b, ri_cv ρ sa ad t = .float b := (ri_cv_is t).2.2.2.2.2.1 h
theorem ri_cat2 {t : Jvm.Term} : (ri_cv ρ sa ad t).category = 2 ↔ ri_wide t = true := by
  have h := ri_cv_is (ρ := ρ) (sa := sa) (ad := ad) t
  unfold ri_wide
  rw [Bool.or_eq_true, beq_iff_eq, beq_iff_eq]
  exact ⟨h.2.2.2.2.2.2.1, h.2.2.2.2.2.2.2⟩
theorem ri_cat1 {t : Jvm.Term} (h : ri_wide t = false) : (ri_cv ρ sa ad t).category = 1 := by
  rcases lv_cat (ri_cv ρ sa ad t) with h1 | h1
  · exact h1
  · rw [ri_cat2.mp h1] at h; cases h
/-- an int or a long doesn't hang on where the cells lie -/
theorem ri_3 {sa' : String → Nat → Nat} {t : Jvm.Term} {P : Prop} (e : ri_cv ρ sa ad t = ri_cv ρ sa' ad' t) : ri_gI (ri_cv ρ sa ad t) = ri_gI (ri_cv ρ sa' ad' t) ∧ ri_gL (ri_cv ρ sa ad t) = ri_gL (ri_cv ρ sa' ad' t) ∧ (P → ri_cv ρ sa ad t = ri_cv ρ sa' ad' t) := ⟨by rw [e], by rw [e], fun _ => e⟩
theorem ri_key {sa' : String → Nat → Nat} (t : Jvm.Term) : ri_gI (ri_cv ρ sa ad t) = ri_gI (ri_cv ρ sa' ad' t) ∧ ri_gL (ri_cv ρ sa ad t) = ri_gL (ri_cv ρ sa' ad' t) ∧ ((∀ k, t ≠ .index k) ∧ (∀ c i, t ≠ .string c i) → ri_cv ρ sa ad t = ri_cv ρ sa' ad' t) := by
  induction t with
  | index k => exact ⟨rfl, rfl, fun h => absurd rfl (h.1 k)⟩
  | string c i => exact ⟨rfl, rfl, fun h => absurd rfl (h.2 c i)⟩
  | add a b ha hb => exact ri_3 (by simp only [ri_cv]; rw [ha.1, hb.1])
  | sub a b ha hb => exact ri_3 (by simp only [ri_cv]; rw [ha.1, hb.1])
  | mul a b ha hb => exact ri_3 (by simp only [ri_cv]; rw [ha.1, hb.1])
  | div a b ha hb => exact ri_3 (by simp only [ri_cv]; rw [ha.1, hb.1])
  | rem a b ha hb => exact ri_3 (by simp only [ri_cv]; rw [ha.1, hb.1])
  | op2 o a b ha hb => exact ri_3 (by simp only [ri_cv]; rw [ha.1, hb.1, ha.2.1, hb.2.1])
  | op1 o a ha => exact ri_3 (by simp only [ri_cv]; rw [ha.1, ha.2.1])
  | _ => exact ri_3 rfl
theorem ri_num (t : Jvm.Term) (h : ∀ k, t ≠ .index k) : ri_cv ρ sa ad t = ri_cv ρ sa ad' t := by
  by_cases hs : ∃ c i, t = .string c i
  · obtain ⟨c, i, rfl⟩ := hs
    rfl
  · exact (ri_key t).2.2 ⟨h, fun c i e => hs ⟨c, i, e⟩⟩
end RIB
/-- a constant, written by its number -/
def ri_cn : Nat → Jvm.Term
  | 0 => .int 0
  | k + 1 => .int (Int32.ofNat (k + 1))
def ri_ci (x : Int32) : Jvm.Term := ri_cn x.toBitVec.toNat
def ri_cnL : Nat → Jvm.Term
  | 0 => .long 0
  | k + 1 => .long (Int64.ofNat (k + 1))
def ri_cl (x : Int64) : Jvm.Term := ri_cnL x.toBitVec.toNat
theorem ri_ci_eq (x : Int32) : ri_ci x = .int x := by
  have h : ∀ n, ri_cn n = .int (Int32.ofNat n) := fun n => by cases n <;> rfl
  unfold ri_ci
  rw [h]
  congr 1
  apply Int32.toBitVec_inj.mp
  apply BitVec.eq_of_toNat_eq
  simp [Int32.ofNat]
theorem ri_cl_eq (x : Int64) : ri_cl x = .long x := by
  have h : ∀ n, ri_cnL n = .long (Int64.ofNat n) := fun n => by cases n <;> rfl
  unfold ri_cl
  rw [h]
  congr 1
  apply Int64.toBitVec_inj.mp
  apply BitVec.eq_of_toNat_eq
  simp [Int64.ofNat]
/-- an operation: of constants a constant -/
def ri_bin (f : Int32 → Int32 → Int32) (t a b : Jvm.Term) : Jvm.Term := match a, b with
  | .int x, .int y => ri_ci (f x y)
  | _, _ => t
def ri_binL (f : Int64 → Int64 → Int64) (t a b : Jvm.Term) : Jvm.Term := match a, b with
  | .long x, .long y => ri_cl (f x y)
  | _, _ => t
def ri_binC (t a b : Jvm.Term) : Jvm.Term := match a, b with
  | .long x, .long y => ri_ci (lg_cmp x y)
  | _, _ => t
def ri_un (f : Int32 → Int32) (t a : Jvm.Term) : Jvm.Term := match a with
  | .int x => ri_ci (f x)
  | _ => t
def ri_unIL (f : Int32 → Int64) (t a : Jvm.Term) : Jvm.Term := match a with
  | .int x => ri_cl (f x)
  | _ => t
def ri_unLI (f : Int64 → Int32) (t a : Jvm.Term) : Jvm.Term := match a with
  | .long x => ri_ci (f x)
  | _ => t
section RIC
variable {ρ : Nat → Int32} {sa : String → Nat → Nat} {ad : Nat → Nat}
theorem ri_bin_cv {f : Int32 → Int32 → Int32} {t a b : Jvm.Term} (h : ri_cv ρ sa ad t = .int (f (ri_gI (ri_cv ρ sa ad a)) (ri_gI (ri_cv ρ sa ad b)))) : ri_cv ρ sa ad (ri_bin f t a b) = .int (f (ri_gI (ri_cv ρ sa ad a)) (ri_gI (ri_cv ρ sa ad b))) := by
  unfold ri_bin
  split
  · rw [ri_ci_eq]; rfl
  · exact h
theorem ri_binL_cv {f : Int64 → Int64 → Int64} {t a b : Jvm.Term} (h : ri_cv ρ sa ad t = .long (f (ri_gL (ri_cv ρ sa ad a)) (ri_gL (ri_cv ρ sa ad b)))) : ri_cv ρ sa ad (ri_binL f t a b) = .long (f (ri_gL (ri_cv ρ sa ad a)) (ri_gL (ri_cv ρ sa ad b))) := by
  unfold ri_binL
  split
  · rw [ri_cl_eq]; rfl
  · exact h
theorem ri_binC_cv {t a b : Jvm.Term} (h : ri_cv ρ sa ad t = .int (lg_cmp (ri_gL (ri_cv ρ sa ad a)) (ri_gL (ri_cv ρ sa ad b)))) : ri_cv ρ sa ad (ri_binC t a b) = .int (lg_cmp (ri_gL (ri_cv ρ sa ad a)) (ri_gL (ri_cv ρ sa ad b))) := by
  unfold ri_binC
  split
  · rw [ri_ci_eq]; rfl
  · exact h
theorem ri_un_cv {f : Int32 → Int32} {t a : Jvm.Term} (h : ri_cv ρ sa ad t = .int (f (ri_gI (ri_cv ρ sa ad a)))) : ri_cv ρ sa ad (ri_un f t a) = .int (f (ri_gI (ri_cv ρ sa ad a))) := by
  unfold ri_un
  split
  · rw [ri_ci_eq]; rfl
  · exact h
theorem ri_unIL_cv {f : Int32 → Int64} {t a : Jvm.Term} (h : ri_cv ρ sa ad t = .long (f (ri_gI (ri_cv ρ sa ad a)))) : ri_cv ρ sa ad (ri_unIL f t a) = .long (f (ri_gI (ri_cv ρ sa ad a))) := by
  unfold ri_unIL
  split
  · rw [ri_cl_eq]; rfl
  · exact h
theorem ri_unLI_cv {f : Int64 → Int32} {t a : Jvm.Term} (h : ri_cv ρ sa ad t = .int (f (ri_gL (ri_cv ρ sa ad a)))) : ri_cv ρ sa ad (ri_unLI f t a) = .int (f (ri_gL (ri_cv ρ sa ad a))) := by
  unfold ri_unLI
  split
  · rw [ri_ci_eq]; rfl
  · exact h
end RIC
/-- the locals: a place, its value -/
def ri_ld (lv : List (Nat × Jvm.Term)) (i : Nat) : Option Jvm.Term := (lv.find? (fun q => q.1 == i)).map (fun q => q.2)
theorem ri_ld_mem {lv : List (Nat × Jvm.Term)} {i : Nat} {t : Jvm.Term} (h : ri_ld lv i = some t) : (i, t) ∈ lv := by
  unfold ri_ld at h
  obtain ⟨q, hq, rfl⟩ := Option.map_eq_some_iff.mp h
  have h1 := List.mem_of_find?_eq_some hq
  have h2 := List.find?_some hq
  have h3 : q.1 = i := by simpa using h2
  rw [← h3]
  exact h1
def ri_sto (lv : List (Nat × Jvm.Term)) (i : Nat) (t : Jvm.Term) : List (Nat × Jvm.Term) := (i, t) :: lv.filter (fun q => !(q.1 == i) && !(q.1 + 1 == i && ri_wide q.2))
def ri_sto2 (lv : List (Nat × Jvm.Term)) (i : Nat) (t : Jvm.Term) : List (Nat × Jvm.Term) := (i, t) :: lv.filter (fun q => !(q.1 == i) && (!(q.1 == i + 1) && !(q.1 + 1 == i && ri_wide q.2)))
def ri_lc (ρ : Nat → Int32) (sa : String → Nat → Nat) (ad : Nat → Nat) (lv : List (Nat × Jvm.Term)) : List (Nat × Value) := lv.map (fun q => (q.1, ri_cv ρ sa ad q.2))
section RID
variable {ρ : Nat → Int32} {sa : String → Nat → Nat} {ad : Nat → Nat} {lv : List (Nat × Jvm.Term)} {ls : Array Slot} {nL : Nat}
theorem ri_has_sub {l l' : List (Nat × Value)} (h : lv_has ls nL l) (hs : ∀ q ∈ l', q ∈ l) : lv_has ls nL l' := ⟨h.1, h.2.1, fun q hq => h.2.2 q (hs q hq)⟩
theorem ri_sto_has {i : Nat} {t : Jvm.Term} (h : lv_has ls nL ((i, ri_cv ρ sa ad t) :: (ri_lc ρ sa ad lv).filter (fun q => !(q.1 == i) && !(q.1 + 1 == i && q.2.category == 2)))) : lv_has ls nL (ri_lc ρ sa ad (ri_sto lv i t)) := by
  refine ri_has_sub h fun q hq => ?_
  obtain ⟨z, hz, rfl⟩ := List.mem_map.mp hq
  rcases List.mem_cons.mp hz with rfl | hz
  · exact List.mem_cons_self
  · obtain ⟨h1, h2⟩ := List.mem_filter.mp hz
    refine List.mem_cons_of_mem _ (List.mem_filter.mpr ⟨List.mem_map.mpr ⟨z, h1, rfl⟩, ?_⟩)
    have e : ((ri_cv ρ sa ad z.2).category == 2) = ri_wide z.2 := by
      rw [Bool.eq_iff_iff, beq_iff_eq]; exact ri_cat2
    show (!(z.1 == i) && !(z.1 + 1 == i && (ri_cv ρ sa ad z.2).category == 2)) = true
    rw [e]; exact h2
theorem ri_sto2_has {i : Nat} {t : Jvm.Term} (h : lv_has ls nL ((i, ri_cv ρ sa ad t) :: (ri_lc ρ sa ad lv).filter (fun q => !(q.1 == i) && (!(q.1 == i + 1) && !(q.1 + 1 == i && q.2.category == 2))))) : lv_has ls nL (ri_lc ρ sa ad (ri_sto2 lv i t)) := by
  refine ri_has_sub h fun q hq => ?_
  obtain ⟨z, hz, rfl⟩ := List.mem_map.mp hq
  rcases List.mem_cons.mp hz with rfl | hz
  · exact List.mem_cons_self
  · obtain ⟨h1, h2⟩ := List.mem_filter.mp hz
    refine List.mem_cons_of_mem _ (List.mem_filter.mpr ⟨List.mem_map.mpr ⟨z, h1, rfl⟩, ?_⟩)
    have e : ((ri_cv ρ sa ad z.2).category == 2) = ri_wide z.2 := by
      rw [Bool.eq_iff_iff, beq_iff_eq]; exact ri_cat2
    show (!(z.1 == i) && (!(z.1 == i + 1) && !(z.1 + 1 == i && (ri_cv ρ sa ad z.2).category == 2))) = true
    rw [e]; exact h2
theorem ri_ld_at {i : Nat} {t : Jvm.Term} (h : lv_has ls nL (ri_lc ρ sa ad lv)) (hl : ri_ld lv i = some t) : ls[i]? = some (.val (ri_cv ρ sa ad t)) :=
  h.2.2 (i, ri_cv ρ sa ad t) (List.mem_map.mpr ⟨(i, t), ri_ld_mem hl, rfl⟩)
end RID
end RIA
end
section
/-! RI: the instructions that touch neither heap nor course -/
section RIP
def ri_pl (len kk : Nat) (lv : List (Nat × Jvm.Term)) (k : Nat) (st : List Jvm.Term) : Option (Nat × List (Nat × Jvm.Term) × List Jvm.Term) := match ri_ld lv k with
  | some t => if ri_k t = kk then some (len, lv, t :: st) else none
  | none => none
def ri_pa (len : Nat) (lv : List (Nat × Jvm.Term)) (k : Nat) (st : List Jvm.Term) : Option (Nat × List (Nat × Jvm.Term) × List Jvm.Term) := match ri_ld lv k with
  | some t => if ri_k t = 2 ∨ ri_k t = 3 then some (len, lv, t :: st) else none
  | none => none
def ri_ps (len kk nL : Nat) (lv : List (Nat × Jvm.Term)) (k : Nat) (st : List Jvm.Term) : Option (Nat × List (Nat × Jvm.Term) × List Jvm.Term) := match st with
  | t :: r => if ri_k t = kk ∧ k < nL then some (len, ri_sto lv k t, r) else none
  | _ => none
def ri_psa (len nL : Nat) (lv : List (Nat × Jvm.Term)) (k : Nat) (st : List Jvm.Term) : Option (Nat × List (Nat × Jvm.Term) × List Jvm.Term) := match st with
  | t :: r => if (ri_k t = 2 ∨ ri_k t = 3) ∧ k < nL then some (len, ri_sto lv k t, r) else none
  | _ => none
def ri_ps2 (len nL : Nat) (lv : List (Nat × Jvm.Term)) (k : Nat) (st : List Jvm.Term) : Option (Nat × List (Nat × Jvm.Term) × List Jvm.Term) := match st with
  | t :: r => if ri_k t = 1 ∧ k + 1 < nL then some (len, ri_sto2 lv k t, r) else none
  | _ => none
def ri_s1 (kk : Nat) (g : Jvm.Term → Jvm.Term) (lv : List (Nat × Jvm.Term)) (st : List Jvm.Term) : Option (Nat × List (Nat × Jvm.Term) × List Jvm.Term) := match st with
  | a :: r => if ri_k a = kk then some (1, lv, g a :: r) else none
  | _ => none
def ri_s2 (kk : Nat) (g : Jvm.Term → Jvm.Term → Jvm.Term) (lv : List (Nat × Jvm.Term)) (st : List Jvm.Term) : Option (Nat × List (Nat × Jvm.Term) × List Jvm.Term) := match st with
  | b :: a :: r => if ri_k a = kk ∧ ri_k b = kk then some (1, lv, g a b :: r) else none
  | _ => none
/-- a division: by a constant that isn't 0 -/
def ri_nz : Jvm.Term → Bool
  | .int y => !(y == 0)
  | _ => false
def ri_sd (g : Jvm.Term → Jvm.Term → Jvm.Term) (lv : List (Nat × Jvm.Term)) (st : List Jvm.Term) : Option (Nat × List (Nat × Jvm.Term) × List Jvm.Term) := match st with
  | b :: a :: r => if ri_k a = 0 ∧ ri_nz b = true then some (1, lv, g a b :: r) else none
  | _ => none
def ri_dup (lv : List (Nat × Jvm.Term)) (st : List Jvm.Term) : Option (Nat × List (Nat × Jvm.Term) × List Jvm.Term) := match st with
  | a :: r => if ri_wide a = false then some (1, lv, a :: a :: r) else none
  | _ => none
def ri_dup_x1 (lv : List (Nat × Jvm.Term)) (st : List Jvm.Term) : Option (Nat × List (Nat × Jvm.Term) × List Jvm.Term) := match st with
  | a :: b :: r => if ri_wide a = false ∧ ri_wide b = false then some (1, lv, a :: b :: a :: r) else none
  | _ => none
def ri_dup2 (lv : List (Nat × Jvm.Term)) (st : List Jvm.Term) : Option (Nat × List (Nat × Jvm.Term) × List Jvm.Term) := match st with
  | a :: b :: r => if ri_wide a = false ∧ ri_wide b = false then some (1, lv, a :: b :: a :: b :: r) else none
  | _ => none
def ri_pop (lv : List (Nat × Jvm.Term)) (st : List Jvm.Term) : Option (Nat × List (Nat × Jvm.Term) × List Jvm.Term) := match st with
  | a :: r => if ri_wide a = false then some (1, lv, r) else none
  | _ => none
def ri_inc (nL : Nat) (lv : List (Nat × Jvm.Term)) (k : Nat) (n : Int) (st : List Jvm.Term) : Option (Nat × List (Nat × Jvm.Term) × List Jvm.Term) := match ri_ld lv k with
  | some t => if ri_k t = 0 ∧ k < nL then some (3, ri_sto lv k (ri_bin (fun x y => x + y) (.add t (.int (Int32.ofInt n))) t (.int (Int32.ofInt n))), st) else none
  | none => none
/-- doubles and floats that are constants -/
def ri_fD (b : UInt64) : Jvm.Term := .op1 .bitsD (ri_cl b.toInt64)
def ri_fF (b : UInt32) : Jvm.Term := .op1 .bitsF (ri_ci b.toInt32)
def ri_s1F (g : UInt32 → UInt64) (lv : List (Nat × Jvm.Term)) (st : List Jvm.Term) : Option (Nat × List (Nat × Jvm.Term) × List Jvm.Term) := match st with
  | .op1 .bitsF (.int x) :: r => if g x.toUInt32 &&& 0x7fffffffffffffff ≤ 0x7ff0000000000000 then some (1, lv, ri_fD (g x.toUInt32) :: r) else none
  | _ => none
def ri_s2F (g : UInt32 → UInt32 → UInt32) (lv : List (Nat × Jvm.Term)) (st : List Jvm.Term) : Option (Nat × List (Nat × Jvm.Term) × List Jvm.Term) := match st with
  | .op1 .bitsF (.int y) :: .op1 .bitsF (.int x) :: r => if g x.toUInt32 y.toUInt32 &&& 0x7fffffff ≤ 0x7f800000 then some (1, lv, ri_fF (g x.toUInt32 y.toUInt32) :: r) else none
  | _ => none
def ri_s2D (g : UInt64 → UInt64 → UInt64) (lv : List (Nat × Jvm.Term)) (st : List Jvm.Term) : Option (Nat × List (Nat × Jvm.Term) × List Jvm.Term) := match st with
  | .op1 .bitsD (.long y) :: .op1 .bitsD (.long x) :: r => if g x.toUInt64 y.toUInt64 &&& 0x7fffffffffffffff ≤ 0x7ff0000000000000 then some (1, lv, ri_fD (g x.toUInt64 y.toUInt64) :: r) else none
  | _ => none
def ri_sI (g : Int32 → Jvm.Term) (lv : List (Nat × Jvm.Term)) (st : List Jvm.Term) : Option (Nat × List (Nat × Jvm.Term) × List Jvm.Term) := match st with
  | .int x :: r => some (1, lv, g x :: r)
  | _ => none
def ri_sC (op : CmpOp) (lv : List (Nat × Jvm.Term)) (st : List Jvm.Term) : Option (Nat × List (Nat × Jvm.Term) × List Jvm.Term) := match st with
  | .op1 .bitsD (.long y) :: .op1 .bitsD (.long x) :: r => some (1, lv, ri_ci (Op.cmpValue (FP.dcmp x.toUInt64 y.toUInt64) op) :: r)
  | _ => none
def ri_psd (len nL : Nat) (lv : List (Nat × Jvm.Term)) (k : Nat) (st : List Jvm.Term) : Option (Nat × List (Nat × Jvm.Term) × List Jvm.Term) := match st with
  | t :: r => if ri_k t = 4 ∧ k + 1 < nL then some (len, ri_sto2 lv k t, r) else none
  | _ => none
def ri_pure (nL : Nat) (i : Instr) (lv : List (Nat × Jvm.Term)) (st : List Jvm.Term) : Option (Nat × List (Nat × Jvm.Term) × List Jvm.Term) := match i with
  | .iconst n => some (1, lv, ri_ci (Int32.ofInt n) :: st)
  | .bipush n => some (2, lv, ri_ci (Int8.ofInt n).toInt32 :: st)
  | .sipush n => some (3, lv, ri_ci (Int16.ofInt n).toInt32 :: st)
  | .lconst n => some (1, lv, ri_cl (Int64.ofNat n.val) :: st)
  | .aconst_null => some (1, lv, .null :: st)
  | .iload k => ri_pl 2 0 lv k st
  | .iload_n k => ri_pl 1 0 lv k.val st
  | .lload k => ri_pl 2 1 lv k st
  | .lload_n k => ri_pl 1 1 lv k.val st
  | .aload k => ri_pa 2 lv k st
  | .aload_n k => ri_pa 1 lv k.val st
  | .istore k => ri_ps 2 0 nL lv k st
  | .istore_n k => ri_ps 1 0 nL lv k.val st
  | .lstore k => ri_ps2 2 nL lv k st
  | .lstore_n k => ri_ps2 1 nL lv k.val st
  | .astore k => ri_psa 2 nL lv k st
  | .astore_n k => ri_psa 1 nL lv k.val st
  | .iinc k n => ri_inc nL lv k n st
  | .iadd => ri_s2 0 (fun a b => ri_bin (fun x y => x + y) (.add a b) a b) lv st
  | .isub => ri_s2 0 (fun a b => ri_bin (fun x y => x - y) (.sub a b) a b) lv st
  | .imul => ri_s2 0 (fun a b => ri_bin (fun x y => x * y) (.mul a b) a b) lv st
  | .idiv => ri_sd (fun a b => ri_bin (fun x y => x / y) (.div a b) a b) lv st
  | .irem => ri_sd (fun a b => ri_bin (fun x y => x - x / y * y) (.rem a b) a b) lv st
  | .iand => ri_s2 0 (fun a b => ri_bin (fun x y => x &&& y) (.op2 .iand a b) a b) lv st
  | .ior => ri_s2 0 (fun a b => ri_bin (fun x y => x ||| y) (.op2 .ior a b) a b) lv st
  | .ixor => ri_s2 0 (fun a b => ri_bin (fun x y => x ^^^ y) (.op2 .ixor a b) a b) lv st
  | .ishl => ri_s2 0 (fun a b => ri_bin (fun x y => x <<< (y &&& 31)) (.op2 .ishl a b) a b) lv st
  | .ishr => ri_s2 0 (fun a b => ri_bin (fun x y => x >>> (y &&& 31)) (.op2 .ishr a b) a b) lv st
  | .iushr => ri_s2 0 (fun a b => ri_bin (fun x y => (x.toUInt32 >>> (y.toUInt32 &&& Int32.toUInt32 31)).toInt32) (.op2 .iushr a b) a b) lv st
  | .ineg => ri_s1 0 (fun a => ri_un (fun x => -x) (.op1 .ineg a) a) lv st
  | .i2l => ri_s1 0 (fun a => ri_unIL (fun x => x.toInt64) (.op1 .i2l a) a) lv st
  | .l2i => ri_s1 1 (fun a => ri_unLI (fun x => x.toInt32) (.op1 .l2i a) a) lv st
  | .ladd => ri_s2 1 (fun a b => ri_binL (fun x y => x + y) (.op2 .ladd a b) a b) lv st
  | .lsub => ri_s2 1 (fun a b => ri_binL (fun x y => x - y) (.op2 .lsub a b) a b) lv st
  | .lcmp => ri_s2 1 (fun a b => ri_binC (.op2 .lcmp a b) a b) lv st
  | .i2d => ri_sI (fun x => ri_fD (FP.i2d x)) lv st
  | .i2f => ri_sI (fun x => ri_fF (FP.i2f x)) lv st
  | .ddiv => ri_s2D FP.ddiv lv st
  | .fdiv => ri_s2F FP.fdiv lv st
  | .fsub => ri_s2F FP.fsub lv st
  | .f2d => ri_s1F FP.f2d lv st
  | .fconst 0 => some (1, lv, ri_fF FP.fconst0 :: st)
  | .fconst 1 => some (1, lv, ri_fF FP.fconst1 :: st)
  | .dconst 0 => some (1, lv, ri_fD FP.dconst0 :: st)
  | .dcmp op => ri_sC op lv st
  | .dload k => ri_pl 2 4 lv k st
  | .dload_n k => ri_pl 1 4 lv k.val st
  | .dstore k => ri_psd 2 nL lv k st
  | .dstore_n k => ri_psd 1 nL lv k.val st
  | .dup => ri_dup lv st
  | .dup_x1 => ri_dup_x1 lv st
  | .dup2 => ri_dup2 lv st
  | .pop => ri_pop lv st
  | _ => none
section RIPS
variable {ρ : Nat → Int32} {sa : String → Nat → Nat} {ad : Nat → Nat} {lv lv' : List (Nat × Jvm.Term)} {st st' : List Jvm.Term} {len len' kk nL k : Nat}
theorem ri_pl_s (h : ri_pl len kk lv k st = some (len', lv', st')) : ∃ t, ri_ld lv k = some t ∧ ri_k t = kk ∧ len' = len ∧ lv' = lv ∧ st' = t :: st := by
  unfold ri_pl at h
  split at h
  · next t ht =>
    split at h
    · next hk => cases h; exact ⟨t, ht, hk, rfl, rfl, rfl⟩
    · cases h
  · cases h
theorem ri_pa_s (h : ri_pa len lv k st = some (len', lv', st')) : ∃ t, ri_ld lv k = some t ∧ (ri_k t = 2 ∨ ri_k t = 3) ∧ len' = len ∧ lv' = lv ∧ st' = t :: st := by
  unfold ri_pa at h
  split at h
  · next t ht =>
    split at h
    · next hk => cases h; exact ⟨t, ht, hk, rfl, rfl, rfl⟩
    · cases h
  · cases h
theorem ri_ps_s (h : ri_ps len kk nL lv k st = some (len', lv', st')) : ∃ t, st = t :: st' ∧ ri_k t = kk ∧ k < nL ∧ len' = len ∧ lv' = ri_sto lv k t := by
  unfold ri_ps at h
  split at h
  · next t r =>
    split at h
    · next hk => cases h; exact ⟨t, rfl, hk.1, hk.2, rfl, rfl⟩
    · cases h
  · cases h
theorem ri_psa_s (h : ri_psa len nL lv k st = some (len', lv', st')) : ∃ t, st = t :: st' ∧ (ri_k t = 2 ∨ ri_k t = 3) ∧ k < nL ∧ len' = len ∧ lv' = ri_sto lv k t := by
  unfold ri_psa at h
  split at h
  · next t r =>
    split at h
    · next hk => cases h; exact ⟨t, rfl, hk.1, hk.2, rfl, rfl⟩
    · cases h
  · cases h
theorem ri_ps2_s (h : ri_ps2 len nL lv k st = some (len', lv', st')) : ∃ t, st = t :: st' ∧ ri_k t = 1 ∧ k + 1 < nL ∧ len' = len ∧ lv' = ri_sto2 lv k t := by
  unfold ri_ps2 at h
  split at h
  · next t r =>
    split at h
    · next hk => cases h; exact ⟨t, rfl, hk.1, hk.2, rfl, rfl⟩
    · cases h
  · cases h
theorem ri_s1_s {g : Jvm.Term → Jvm.Term} (h : ri_s1 kk g lv st = some (len', lv', st')) : ∃ a r, st = a :: r ∧ ri_k a = kk ∧ len' = 1 ∧ lv' = lv ∧ st' = g a :: r := by
  unfold ri_s1 at h
  split at h
  · next a r =>
    split at h
    · next hk => cases h; exact ⟨a, r, rfl, hk, rfl, rfl, rfl⟩
    · cases h
  · cases h
theorem ri_s2_s {g : Jvm.Term → Jvm.Term → Jvm.Term} (h : ri_s2 kk g lv st = some (len', lv', st')) : ∃ a b r, st = b :: a :: r ∧ ri_k a = kk ∧ ri_k b = kk ∧ len' = 1 ∧ lv' = lv ∧ st' = g a b :: r := by
  unfold ri_s2 at h
  split at h
  · next b a r =>
    split at h
    · next hk => cases h; exact ⟨a, b, r, rfl, hk.1, hk.2, rfl, rfl, rfl⟩
    · cases h
  · cases h
theorem ri_nz_s {b : Jvm.Term} (h : ri_nz b = true) : ∃ y : Int32, b = .int y ∧ ¬ y = 0 := by
  unfold ri_nz at h
  split at h
  · next y => exact ⟨y, rfl, fun e => by rw [e] at h; exact absurd h (by decide)⟩
  · cases h
theorem ri_sd_s {g : Jvm.Term → Jvm.Term → Jvm.Term} (h : ri_sd g lv st = some (len', lv', st')) : ∃ a b r, st = b :: a :: r ∧ ri_k a = 0 ∧ ri_nz b = true ∧ len' = 1 ∧ lv' = lv ∧ st' = g a b :: r := by
  unfold ri_sd at h
  split at h
  · next b a r =>
    split at h
    · next hk => cases h; exact ⟨a, b, r, rfl, hk.1, hk.2, rfl, rfl, rfl⟩
    · cases h
  · cases h
theorem ri_dup_s (h : ri_dup lv st = some (len', lv', st')) : ∃ a r, st = a :: r ∧ ri_wide a = false ∧ len' = 1 ∧ lv' = lv ∧ st' = a :: a :: r := by
  unfold ri_dup at h
  split at h
  · next a r =>
    split at h
    · next hk => cases h; exact ⟨a, r, rfl, hk, rfl, rfl, rfl⟩
    · cases h
  · cases h
theorem ri_pop_s (h : ri_pop lv st = some (len', lv', st')) : ∃ a, st = a :: st' ∧ ri_wide a = false ∧ len' = 1 ∧ lv' = lv := by
  unfold ri_pop at h
  split at h
  · next a r =>
    split at h
    · next hk => cases h; exact ⟨a, rfl, hk, rfl, rfl⟩
    · cases h
  · cases h
theorem ri_dup_x1_s (h : ri_dup_x1 lv st = some (len', lv', st')) : ∃ a b r, st = a :: b :: r ∧ ri_wide a = false ∧ ri_wide b = false ∧ len' = 1 ∧ lv' = lv ∧ st' = a :: b :: a :: r := by
  unfold ri_dup_x1 at h
  split at h
  · next a b r =>
    split at h
    · next hk => cases h; exact ⟨a, b, r, rfl, hk.1, hk.2, rfl, rfl, rfl⟩
    · cases h
  · cases h
theorem ri_dup2_s (h : ri_dup2 lv st = some (len', lv', st')) : ∃ a b r, st = a :: b :: r ∧ ri_wide a = false ∧ ri_wide b = false ∧ len' = 1 ∧ lv' = lv ∧ st' = a :: b :: a :: b :: r := by
  unfold ri_dup2 at h
  split at h
  · next a b r =>
    split at h
    · next hk => cases h; exact ⟨a, b, r, rfl, hk.1, hk.2, rfl, rfl, rfl⟩
    · cases h
  · cases h
theorem ri_inc_s {n : Int} (h : ri_inc nL lv k n st = some (len', lv', st')) : ∃ t, ri_ld lv k = some t ∧ ri_k t = 0 ∧ k < nL ∧ len' = 3 ∧ lv' = ri_sto lv k (ri_bin (fun x y => x + y) (.add t (.int (Int32.ofInt n))) t (.int (Int32.ofInt n))) ∧ st' = st := by
  unfold ri_inc at h
  split at h
  · next t ht =>
    split at h
    · next hk => cases h; exact ⟨t, ht, hk.1, hk.2, rfl, rfl, rfl⟩
    · cases h
  · cases h
end RIPS
section RIPF
variable {ρ : Nat → Int32} {sa : String → Nat → Nat} {ad : Nat → Nat} {lv lv' : List (Nat × Jvm.Term)} {st st' : List Jvm.Term} {len len' kk nL k : Nat}
theorem ri_fD_cv {b : UInt64} : ri_cv ρ sa ad (ri_fD b) = .double b := by
  show Value.double (ri_gL (ri_cv ρ sa ad (ri_cl b.toInt64))).toUInt64 = .double b
  rw [ri_cl_eq]
  exact congrArg Value.double (UInt64.toUInt64_toInt64 b)
theorem ri_fF_cv {b : UInt32} : ri_cv ρ sa ad (ri_fF b) = .float b := by
  show Value.float (ri_gI (ri_cv ρ sa ad (ri_ci b.toInt32))).toUInt32 = .float b
  rw [ri_ci_eq]
  exact congrArg Value.float (UInt32.toUInt32_toInt32 b)
theorem ri_s1F_s {g : UInt32 → UInt64} (h : ri_s1F g lv st = some (len', lv', st')) : ∃ (x : Int32) (r : List Jvm.Term), st = .op1 .bitsF (.int x) :: r ∧ vf_n64 (g x.toUInt32) ∧ len' = 1 ∧ lv' = lv ∧ st' = ri_fD (g x.toUInt32) :: r := by
  unfold ri_s1F at h
  split at h
  · next x r =>
    split at h
    · next hk => cases h; exact ⟨x, r, rfl, hk, rfl, rfl, rfl⟩
    · cases h
  · cases h
theorem ri_s2F_s {g : UInt32 → UInt32 → UInt32} (h : ri_s2F g lv st = some (len', lv', st')) : ∃ (x y : Int32) (r : List Jvm.Term), st = .op1 .bitsF (.int y) :: .op1 .bitsF (.int x) :: r ∧ vf_n32 (g x.toUInt32 y.toUInt32) ∧ len' = 1 ∧ lv' = lv ∧ st' = ri_fF (g x.toUInt32 y.toUInt32) :: r := by
  unfold ri_s2F at h
  split at h
  · next y x r =>
    split at h
    · next hk => cases h; exact ⟨x, y, r, rfl, hk, rfl, rfl, rfl⟩
    · cases h
  · cases h
theorem ri_s2D_s {g : UInt64 → UInt64 → UInt64} (h : ri_s2D g lv st = some (len', lv', st')) : ∃ (x y : Int64) (r : List Jvm.Term), st = .op1 .bitsD (.long y) :: .op1 .bitsD (.long x) :: r ∧ vf_n64 (g x.toUInt64 y.toUInt64) ∧ len' = 1 ∧ lv' = lv ∧ st' = ri_fD (g x.toUInt64 y.toUInt64) :: r := by
  unfold ri_s2D at h
  split at h
  · next y x r =>
    split at h
    · next hk => cases h; exact ⟨x, y, r, rfl, hk, rfl, rfl, rfl⟩
    · cases h
  · cases h
theorem ri_sI_s {g : Int32 → Jvm.Term} (h : ri_sI g lv st = some (len', lv', st')) : ∃ (x : Int32) (r : List Jvm.Term), st = .int x :: r ∧ len' = 1 ∧ lv' = lv ∧ st' = g x :: r := by
  unfold ri_sI at h
  split at h
  · next x r => cases h; exact ⟨x, r, rfl, rfl, rfl, rfl⟩
  · cases h
theorem ri_sC_s {op : CmpOp} (h : ri_sC op lv st = some (len', lv', st')) : ∃ (x y : Int64) (r : List Jvm.Term), st = .op1 .bitsD (.long y) :: .op1 .bitsD (.long x) :: r ∧ len' = 1 ∧ lv' = lv ∧ st' = ri_ci (Op.cmpValue (FP.dcmp x.toUInt64 y.toUInt64) op) :: r := by
  unfold ri_sC at h
  split at h
  · next y x r => cases h; exact ⟨x, y, r, rfl, rfl, rfl, rfl⟩
  · cases h
theorem ri_psd_s (h : ri_psd len nL lv k st = some (len', lv', st')) : ∃ t, st = t :: st' ∧ ri_k t = 4 ∧ k + 1 < nL ∧ len' = len ∧ lv' = ri_sto2 lv k t := by
  unfold ri_psd at h
  split at h
  · next t r =>
    split at h
    · next hk => cases h; exact ⟨t, rfl, hk.1, hk.2, rfl, rfl⟩
    · cases h
  · cases h
end RIPF
section RIPW
variable {p : Program} {l : Launch} {e : Env} {R : Room} {s : State} {m : MethodId} {args : Array Value} {below : List Frame} {meth : Method} {c : Code} {H : Heap} {locs : List Loc} {cells slots : Nat} {Q : State → Prop}
variable {ρ : Nat → Int32} {sa : String → Nat → Nat} {ad : Nat → Nat} {lv lv' : List (Nat × Jvm.Term)} {st st' : List Jvm.Term} {len nL pc : Nat} {ls : Array Slot} {cc : ByteArray}
set_option maxHeartbeats 4000000 in
theorem ri_pure_W {i : Instr} (hx : p.tables.exec = Jvm.exec) (hb : c.code = cc) (h : ri_pure nL i lv st = some (len, lv', st')) (hd : decode cc pc = .ok (i, len)) (hl : lv_has ls nL (ri_lc ρ sa ad lv))
    (kk : ∀ ls' : Array Slot, lv_has ls' nL (ri_lc ρ sa ad lv') → W p l e R s m args below meth c H locs cells slots Q (F0 m (pc + len) ls' (st'.map (ri_cv ρ sa ad)))) :
    W p l e R s m args below meth c H locs cells slots Q (F0 m pc ls (st.map (ri_cv ρ sa ad))) := by
  cases i with
  | iconst n => cases h; have k1 := kk ls hl; rw [List.map_cons, ri_ci_eq] at k1; exact lv_iconst hx hb hd rfl k1
  | bipush n => cases h; have k1 := kk ls hl; rw [List.map_cons, ri_ci_eq] at k1; exact lv_bipush hx hb hd rfl k1
  | sipush n => cases h; have k1 := kk ls hl; rw [List.map_cons, ri_ci_eq] at k1; exact lv_sipush hx hb hd rfl k1
  | lconst n => cases h; have k1 := kk ls hl; rw [List.map_cons, ri_cl_eq] at k1; exact lv_lconst hx hb hd rfl k1
  | aconst_null => cases h; exact lv_null hx hb hd (kk ls hl)
  | iload k => obtain ⟨t, h1, h2, rfl, rfl, rfl⟩ := ri_pl_s h; have h3 := ri_ld_at hl h1; have k1 := kk ls hl; rw [List.map_cons, ri_I h2] at k1; rw [ri_I h2] at h3; exact lv_iload hx hb hd h3 k1
  | iload_n k => obtain ⟨t, h1, h2, rfl, rfl, rfl⟩ := ri_pl_s h; have h3 := ri_ld_at hl h1; have k1 := kk ls hl; rw [List.map_cons, ri_I h2] at k1; rw [ri_I h2] at h3; exact lv_iload_n hx hb hd rfl h3 k1
  | lload k => obtain ⟨t, h1, h2, rfl, rfl, rfl⟩ := ri_pl_s h; have h3 := ri_ld_at hl h1; have k1 := kk ls hl; rw [List.map_cons, ri_L h2] at k1; rw [ri_L h2] at h3; exact lv_lload hx hb hd h3 k1
  | lload_n k => obtain ⟨t, h1, h2, rfl, rfl, rfl⟩ := ri_pl_s h; have h3 := ri_ld_at hl h1; have k1 := kk ls hl; rw [List.map_cons, ri_L h2] at k1; rw [ri_L h2] at h3; exact lv_lload_n hx hb hd rfl h3 k1
  | aload k =>
    obtain ⟨t, h1, h2, rfl, rfl, rfl⟩ := ri_pa_s h
    have h3 := ri_ld_at hl h1
    have k1 := kk ls hl
    rw [List.map_cons] at k1
    rcases h2 with h2 | h2
    · obtain ⟨a, ha⟩ := ri_R (ρ := ρ) (sa := sa) (ad := ad) h2
      rw [ha] at h3 k1
      exact lv_aload hx hb hd h3 k1
    · rw [ri_N h2] at h3 k1
      exact lv_aloadN hx hb hd h3 k1
  | aload_n k =>
    obtain ⟨t, h1, h2, rfl, rfl, rfl⟩ := ri_pa_s h
    have h3 := ri_ld_at hl h1
    have k1 := kk ls hl
    rw [List.map_cons] at k1
    rcases h2 with h2 | h2
    · obtain ⟨a, ha⟩ := ri_R (ρ := ρ) (sa := sa) (ad := ad) h2
      rw [ha] at h3 k1
      exact lv_aload_n hx hb hd rfl h3 k1
    · rw [ri_N h2] at h3 k1
      exact lv_aload_nN hx hb hd rfl h3 k1
  | istore k => obtain ⟨t, rfl, h2, h3, rfl, rfl⟩ := ri_ps_s h; rw [List.map_cons, ri_I h2]; exact lv_istore hx hb hd hl h3 rfl fun ls' hl' => kk ls' (ri_sto_has (by rw [ri_I h2]; exact hl'))
  | istore_n k => obtain ⟨t, rfl, h2, h3, rfl, rfl⟩ := ri_ps_s h; rw [List.map_cons, ri_I h2]; exact lv_istore_n hx hb hd rfl hl h3 rfl fun ls' hl' => kk ls' (ri_sto_has (by rw [ri_I h2]; exact hl'))
  | lstore k => obtain ⟨t, rfl, h2, h3, rfl, rfl⟩ := ri_ps2_s h; rw [List.map_cons, ri_L h2]; exact lv_lstore hx hb hd hl h3 rfl fun ls' hl' => kk ls' (ri_sto2_has (by rw [ri_L h2]; exact hl'))
  | lstore_n k => obtain ⟨t, rfl, h2, h3, rfl, rfl⟩ := ri_ps2_s h; rw [List.map_cons, ri_L h2]; exact lv_lstore_n hx hb hd rfl hl h3 rfl fun ls' hl' => kk ls' (ri_sto2_has (by rw [ri_L h2]; exact hl'))
  | astore k =>
    obtain ⟨t, rfl, h2, h3, rfl, rfl⟩ := ri_psa_s h
    rw [List.map_cons]
    rcases h2 with h2 | h2
    · obtain ⟨a, ha⟩ := ri_R (ρ := ρ) (sa := sa) (ad := ad) h2
      rw [ha]
      exact lv_astore hx hb hd hl h3 rfl fun ls' hl' => kk ls' (ri_sto_has (by rw [ha]; exact hl'))
    · rw [ri_N h2]
      exact lv_astoreN hx hb hd hl h3 rfl fun ls' hl' => kk ls' (ri_sto_has (by rw [ri_N h2]; exact hl'))
  | astore_n k =>
    obtain ⟨t, rfl, h2, h3, rfl, rfl⟩ := ri_psa_s h
    rw [List.map_cons]
    rcases h2 with h2 | h2
    · obtain ⟨a, ha⟩ := ri_R (ρ := ρ) (sa := sa) (ad := ad) h2
      rw [ha]
      exact lv_astore_n hx hb hd rfl hl h3 rfl fun ls' hl' => kk ls' (ri_sto_has (by rw [ha]; exact hl'))
    · rw [ri_N h2]
      exact lv_astore_nN hx hb hd rfl hl h3 rfl fun ls' hl' => kk ls' (ri_sto_has (by rw [ri_N h2]; exact hl'))
  | iinc k n =>
    obtain ⟨t, h1, h2, h3, rfl, rfl, rfl⟩ := ri_inc_s h
    have hm : (k, ri_cv ρ sa ad t) ∈ ri_lc ρ sa ad lv := List.mem_map.mpr ⟨(k, t), ri_ld_mem h1, rfl⟩
    obtain ⟨j, hj⟩ := List.getElem?_of_mem hm
    rw [ri_I h2] at hj
    have e := ri_bin_cv (ρ := ρ) (sa := sa) (ad := ad) (f := fun x y => x + y) (t := .add t (.int (Int32.ofInt n))) (a := t) (b := .int (Int32.ofInt n)) rfl
    exact lv_iinc hx hb hd hl hj rfl h3 rfl fun ls' hl' => kk ls' (ri_sto_has (by rw [e]; exact hl'))
  | iadd => obtain ⟨a, b, r, rfl, ha, hb2, rfl, rfl, rfl⟩ := ri_s2_s h; have k1 := kk ls hl; rw [List.map_cons, ri_bin_cv rfl] at k1; rw [List.map_cons, List.map_cons, ri_I ha, ri_I hb2]; exact lv_iadd hx hb hd k1
  | isub => obtain ⟨a, b, r, rfl, ha, hb2, rfl, rfl, rfl⟩ := ri_s2_s h; have k1 := kk ls hl; rw [List.map_cons, ri_bin_cv rfl] at k1; rw [List.map_cons, List.map_cons, ri_I ha, ri_I hb2]; exact lv_isub hx hb hd k1
  | imul => obtain ⟨a, b, r, rfl, ha, hb2, rfl, rfl, rfl⟩ := ri_s2_s h; have k1 := kk ls hl; rw [List.map_cons, ri_bin_cv rfl] at k1; rw [List.map_cons, List.map_cons, ri_I ha, ri_I hb2]; exact lv_imul hx hb hd k1
  | idiv => obtain ⟨a, b, r, rfl, ha, hz, rfl, rfl, rfl⟩ := ri_sd_s h; obtain ⟨y, rfl, hy⟩ := ri_nz_s hz; have k1 := kk ls hl; rw [List.map_cons, ri_bin_cv rfl] at k1; rw [List.map_cons, List.map_cons, ri_I ha]; exact lv_idiv hx hb hd hy k1
  | irem => obtain ⟨a, b, r, rfl, ha, hz, rfl, rfl, rfl⟩ := ri_sd_s h; obtain ⟨y, rfl, hy⟩ := ri_nz_s hz; have k1 := kk ls hl; rw [List.map_cons, ri_bin_cv rfl] at k1; rw [List.map_cons, List.map_cons, ri_I ha]; exact lv_irem hx hb hd hy k1
  | iand => obtain ⟨a, b, r, rfl, ha, hb2, rfl, rfl, rfl⟩ := ri_s2_s h; have k1 := kk ls hl; rw [List.map_cons, ri_bin_cv rfl] at k1; rw [List.map_cons, List.map_cons, ri_I ha, ri_I hb2]; exact lv_iand hx hb hd k1
  | ior => obtain ⟨a, b, r, rfl, ha, hb2, rfl, rfl, rfl⟩ := ri_s2_s h; have k1 := kk ls hl; rw [List.map_cons, ri_bin_cv rfl] at k1; rw [List.map_cons, List.map_cons, ri_I ha, ri_I hb2]; exact lv_ior hx hb hd k1
  | ixor => obtain ⟨a, b, r, rfl, ha, hb2, rfl, rfl, rfl⟩ := ri_s2_s h; have k1 := kk ls hl; rw [List.map_cons, ri_bin_cv rfl] at k1; rw [List.map_cons, List.map_cons, ri_I ha, ri_I hb2]; exact lv_ixor hx hb hd k1
  | ishl => obtain ⟨a, b, r, rfl, ha, hb2, rfl, rfl, rfl⟩ := ri_s2_s h; have k1 := kk ls hl; rw [List.map_cons, ri_bin_cv rfl] at k1; rw [List.map_cons, List.map_cons, ri_I ha, ri_I hb2]; exact lv_ishl hx hb hd k1
  | ishr => obtain ⟨a, b, r, rfl, ha, hb2, rfl, rfl, rfl⟩ := ri_s2_s h; have k1 := kk ls hl; rw [List.map_cons, ri_bin_cv rfl] at k1; rw [List.map_cons, List.map_cons, ri_I ha, ri_I hb2]; exact lv_ishr hx hb hd k1
  | iushr => obtain ⟨a, b, r, rfl, ha, hb2, rfl, rfl, rfl⟩ := ri_s2_s h; have k1 := kk ls hl; rw [List.map_cons, ri_bin_cv rfl] at k1; rw [List.map_cons, List.map_cons, ri_I ha, ri_I hb2]; exact lv_iushr hx hb hd rfl k1
  | ineg => obtain ⟨a, r, rfl, ha, rfl, rfl, rfl⟩ := ri_s1_s h; have k1 := kk ls hl; rw [List.map_cons, ri_un_cv rfl] at k1; rw [List.map_cons, ri_I ha]; exact lv_ineg hx hb hd k1
  | i2l => obtain ⟨a, r, rfl, ha, rfl, rfl, rfl⟩ := ri_s1_s h; have k1 := kk ls hl; rw [List.map_cons, ri_unIL_cv rfl] at k1; rw [List.map_cons, ri_I ha]; exact lv_i2l hx hb hd rfl k1
  | l2i => obtain ⟨a, r, rfl, ha, rfl, rfl, rfl⟩ := ri_s1_s h; have k1 := kk ls hl; rw [List.map_cons, ri_unLI_cv rfl] at k1; rw [List.map_cons, ri_L ha]; exact lv_l2i hx hb hd rfl k1
  | ladd => obtain ⟨a, b, r, rfl, ha, hb2, rfl, rfl, rfl⟩ := ri_s2_s h; have k1 := kk ls hl; rw [List.map_cons, ri_binL_cv rfl] at k1; rw [List.map_cons, List.map_cons, ri_L ha, ri_L hb2]; exact lv_ladd hx hb hd k1
  | lsub => obtain ⟨a, b, r, rfl, ha, hb2, rfl, rfl, rfl⟩ := ri_s2_s h; have k1 := kk ls hl; rw [List.map_cons, ri_binL_cv rfl] at k1; rw [List.map_cons, List.map_cons, ri_L ha, ri_L hb2]; exact lv_lsub hx hb hd k1
  | lcmp => obtain ⟨a, b, r, rfl, ha, hb2, rfl, rfl, rfl⟩ := ri_s2_s h; have k1 := kk ls hl; rw [List.map_cons, ri_binC_cv rfl] at k1; rw [List.map_cons, List.map_cons, ri_L ha, ri_L hb2]; exact W.lcmp hx hb hd k1
  | i2d => obtain ⟨x, r, rfl, rfl, rfl, rfl⟩ := ri_sI_s h; have k1 := kk ls hl; rw [List.map_cons, ri_fD_cv] at k1; exact lv_i2d hx hb hd k1
  | i2f => obtain ⟨x, r, rfl, rfl, rfl, rfl⟩ := ri_sI_s h; have k1 := kk ls hl; rw [List.map_cons, ri_fF_cv] at k1; exact lv_i2f hx hb hd k1
  | ddiv => obtain ⟨x, y, r, rfl, hn, rfl, rfl, rfl⟩ := ri_s2D_s h; have k1 := kk ls hl; rw [List.map_cons, ri_fD_cv] at k1; exact lv_ddiv (x := x.toUInt64) (y := y.toUInt64) hx hb hd hn k1
  | fdiv => obtain ⟨x, y, r, rfl, hn, rfl, rfl, rfl⟩ := ri_s2F_s h; have k1 := kk ls hl; rw [List.map_cons, ri_fF_cv] at k1; exact lv_fdiv (x := x.toUInt32) (y := y.toUInt32) hx hb hd hn k1
  | fsub => obtain ⟨x, y, r, rfl, hn, rfl, rfl, rfl⟩ := ri_s2F_s h; have k1 := kk ls hl; rw [List.map_cons, ri_fF_cv] at k1; exact lv_fsub (x := x.toUInt32) (y := y.toUInt32) hx hb hd hn k1
  | f2d => obtain ⟨x, r, rfl, hn, rfl, rfl, rfl⟩ := ri_s1F_s h; have k1 := kk ls hl; rw [List.map_cons, ri_fD_cv] at k1; exact lv_f2d (x := x.toUInt32) hx hb hd hn k1
  | fconst k =>
    match k, h, hd with
    | 0, h, hd => cases h; have k1 := kk ls hl; rw [List.map_cons, ri_fF_cv] at k1; exact lv_fconst0 hx hb hd k1
    | 1, h, hd => cases h; have k1 := kk ls hl; rw [List.map_cons, ri_fF_cv] at k1; exact lv_fconst1 hx hb hd k1
    | 2, h, hd => cases h
  | dconst k =>
    match k, h, hd with
    | 0, h, hd => cases h; have k1 := kk ls hl; rw [List.map_cons, ri_fD_cv] at k1; exact lv_dconst0 hx hb hd k1
    | 1, h, hd => cases h
  | dcmp op => obtain ⟨x, y, r, rfl, rfl, rfl, rfl⟩ := ri_sC_s h; have k1 := kk ls hl; rw [List.map_cons, ri_ci_eq] at k1; exact lv_dcmp (x := x.toUInt64) (y := y.toUInt64) hx hb hd k1
  | dload k => obtain ⟨t, h1, h2, rfl, rfl, rfl⟩ := ri_pl_s h; obtain ⟨b9, hb9⟩ := ri_Dd (ρ := ρ) (sa := sa) (ad := ad) h2; have h3 := ri_ld_at hl h1; have k1 := kk ls hl; rw [List.map_cons, hb9] at k1; rw [hb9] at h3; exact lv_dload hx hb hd h3 k1
  | dload_n k => obtain ⟨t, h1, h2, rfl, rfl, rfl⟩ := ri_pl_s h; obtain ⟨b9, hb9⟩ := ri_Dd (ρ := ρ) (sa := sa) (ad := ad) h2; have h3 := ri_ld_at hl h1; have k1 := kk ls hl; rw [List.map_cons, hb9] at k1; rw [hb9] at h3; exact lv_dload_n hx hb hd rfl h3 k1
  | dstore k => obtain ⟨t, rfl, h2, h3, rfl, rfl⟩ := ri_psd_s h; obtain ⟨b9, hb9⟩ := ri_Dd (ρ := ρ) (sa := sa) (ad := ad) h2; rw [List.map_cons, hb9]; exact lv_dstore hx hb hd hl h3 rfl fun ls' hl' => kk ls' (ri_sto2_has (by rw [hb9]; exact hl'))
  | dstore_n k => obtain ⟨t, rfl, h2, h3, rfl, rfl⟩ := ri_psd_s h; obtain ⟨b9, hb9⟩ := ri_Dd (ρ := ρ) (sa := sa) (ad := ad) h2; rw [List.map_cons, hb9]; exact lv_dstore_n hx hb hd rfl hl h3 rfl fun ls' hl' => kk ls' (ri_sto2_has (by rw [hb9]; exact hl'))
  | dup => obtain ⟨a, r, rfl, ha, rfl, rfl, rfl⟩ := ri_dup_s h; exact lv_dup hx hb hd (ri_cat1 ha) (kk ls hl)
  | dup_x1 => obtain ⟨a, b, r, rfl, ha, hb2, rfl, rfl, rfl⟩ := ri_dup_x1_s h; exact lv_dup_x1 hx hb hd (ri_cat1 ha) (ri_cat1 hb2) (kk ls hl)
  | dup2 => obtain ⟨a, b, r, rfl, ha, hb2, rfl, rfl, rfl⟩ := ri_dup2_s h; exact lv_dup2_11 hx hb hd (ri_cat1 ha) (ri_cat1 hb2) (kk ls hl)
  | pop => obtain ⟨a, rfl, ha, rfl, rfl⟩ := ri_pop_s h; exact lv_pop hx hb hd (ri_cat1 ha) (kk ls hl)
  | _ => exact absurd h (by simp [ri_pure])
end RIPW
end RIP
end
section
/-! RI: the world over closed data: objects and arrays by numbers -/
section RIH
abbrev ri_Ce : Type := (Nat × List Jvm.Term) ⊕ (Nat × Nat × Jvm.Term × List (Nat × Jvm.Term))
abbrev ri_Me : Type := List ri_Ce
def ri_look (d : Jvm.Term) (ov : List (Nat × Jvm.Term)) (j : Nat) : Jvm.Term := match ov.find? (fun q => q.1 == j) with
  | some q => q.2
  | none => d
def ri_sameC (t d : Jvm.Term) : Bool := match t, d with
  | .int a, .int b => a == b
  | .long a, .long b => a == b
  | .null, .null => true
  | _, _ => false
def ri_put (d : Jvm.Term) (ov : List (Nat × Jvm.Term)) (j : Nat) (t : Jvm.Term) : List (Nat × Jvm.Term) :=
  if ri_sameC t d = true then ov.filter (fun q => !(q.1 == j)) else (j, t) :: ov.filter (fun q => !(q.1 == j))
def ri_isR : Option FieldType → Bool
  | some (.object _) => true
  | some (.array _) => true
  | _ => false
def ri_isJ : Option FieldType → Bool
  | some .long => true
  | _ => false
section RIH1
variable (ρ : Nat → Int32) (sa : String → Nat → Nat) (aty : List FieldType) (tyc : Nat → ClassId) (ad : Nat → Nat)
def ri_ce : ri_Ce → va_E
  | .inl (ci, fs) => .inr (ci, fs.map (ri_cv ρ sa ad))
  | .inr (ty, n, d, ov) => .inl (tyc ty, n, if ri_isR aty[ty]? = true then .inr (.inr (.inr (.inr (fun j => ri_gR (ri_cv ρ sa ad (ri_look d ov j)))))) else if ri_isJ aty[ty]? = true then .inr (.inl (fun j => ri_gL (ri_cv ρ sa ad (ri_look d ov j)))) else .inl (fun j => ri_gI (ri_cv ρ sa ad (ri_look d ov j))))
def ri_w (mem : ri_Me) : va_W := mem.mapIdx (fun k e => (ad k, ri_ce ρ sa aty tyc ad e))
end RIH1
/-- the references of a value, of a cell, of a world lie below n -/
def ri_ok (n : Nat) : Jvm.Term → Prop
  | .index k => k < n
  | _ => True
def ri_okC (n : Nat) : ri_Ce → Prop
  | .inl (_, fs) => ∀ t ∈ fs, ri_ok n t
  | .inr (_, _, d, ov) => ri_ok n d ∧ ∀ q ∈ ov, ri_ok n q.2
def ri_okM (n : Nat) (mem : ri_Me) : Prop := ∀ e ∈ mem, ri_okC n e
def ri_ag (n : Nat) (ad ad' : Nat → Nat) : Prop := ∀ k, k < n → ad' k = ad k
section RIH2
variable {ρ : Nat → Int32} {sa : String → Nat → Nat} {aty : List FieldType} {tyc : Nat → ClassId} {ad ad' : Nat → Nat} {n n' : Nat} {mem : ri_Me}
theorem ri_ok_mono {t : Jvm.Term} (h : ri_ok n t) (hn : n ≤ n') : ri_ok n' t := by
  cases t <;> first | trivial | exact Nat.lt_of_lt_of_le h hn
theorem ri_okC_mono {e : ri_Ce} (h : ri_okC n e) (hn : n ≤ n') : ri_okC n' e := by
  match e, h with
  | .inl (_, fs), h => exact fun t ht => ri_ok_mono (h t ht) hn
  | .inr (_, _, d, ov), h => exact ⟨ri_ok_mono h.1 hn, fun q hq => ri_ok_mono (h.2 q hq) hn⟩
theorem ri_okM_mono (h : ri_okM n mem) (hn : n ≤ n') : ri_okM n' mem := fun e he => ri_okC_mono (h e he) hn
theorem ri_ag_rf : ri_ag n ad ad := fun _ _ => rfl
theorem ri_ag_tr {ad2 : Nat → Nat} (h1 : ri_ag n ad ad') (h2 : ri_ag n' ad' ad2) (hn : n ≤ n') : ri_ag n ad ad2 := fun k hk => (h2 k (Nat.lt_of_lt_of_le hk hn)).trans (h1 k hk)
theorem ri_ag_sub (h : ri_ag n' ad ad') (hn : n ≤ n') : ri_ag n ad ad' := fun k hk => h k (Nat.lt_of_lt_of_le hk hn)
theorem ri_cv_ag {t : Jvm.Term} (h : ri_ok n t) (ha : ri_ag n ad ad') : ri_cv ρ sa ad' t = ri_cv ρ sa ad t := by
  by_cases hi : ∃ k, t = .index k
  · obtain ⟨k, rfl⟩ := hi
    show Value.ref (ad' k) = .ref (ad k)
    rw [ha k h]
  · exact ri_num t fun k e => hi ⟨k, e⟩
theorem ri_map_ag {l : List Jvm.Term} (h : ∀ t ∈ l, ri_ok n t) (ha : ri_ag n ad ad') : l.map (ri_cv ρ sa ad') = l.map (ri_cv ρ sa ad) := List.map_congr_left fun t ht => ri_cv_ag (h t ht) ha
theorem ri_lc_ag {lv : List (Nat × Jvm.Term)} (h : ∀ q ∈ lv, ri_ok n q.2) (ha : ri_ag n ad ad') : ri_lc ρ sa ad' lv = ri_lc ρ sa ad lv := List.map_congr_left fun q hq => by rw [ri_cv_ag (h q hq) ha]
theorem ri_look_ok {d : Jvm.Term} {ov : List (Nat × Jvm.Term)} {j : Nat} (hd : ri_ok n d) (ho : ∀ q ∈ ov, ri_ok n q.2) : ri_ok n (ri_look d ov j) := by
  unfold ri_look
  split
  · next q hq => exact ho q (List.mem_of_find?_eq_some hq)
  · exact hd
theorem ri_ce_ag {e : ri_Ce} (h : ri_okC n e) (ha : ri_ag n ad ad') : ri_ce ρ sa aty tyc ad' e = ri_ce ρ sa aty tyc ad e := by
  match e, h with
  | .inl (ci, fs), h => show Sum.inr (ci, fs.map (ri_cv ρ sa ad')) = Sum.inr (ci, fs.map (ri_cv ρ sa ad)); rw [ri_map_ag h ha]
  | .inr (ty, n9, d, ov), h =>
    have e1 : (fun j => ri_gR (ri_cv ρ sa ad' (ri_look d ov j))) = (fun j => ri_gR (ri_cv ρ sa ad (ri_look d ov j))) := funext fun j => by rw [ri_cv_ag (ri_look_ok h.1 h.2) ha]
    have e2 : (fun j => ri_gI (ri_cv ρ sa ad' (ri_look d ov j))) = (fun j => ri_gI (ri_cv ρ sa ad (ri_look d ov j))) := funext fun j => by rw [ri_cv_ag (ri_look_ok h.1 h.2) ha]
    have e3 : (fun j => ri_gL (ri_cv ρ sa ad' (ri_look d ov j))) = (fun j => ri_gL (ri_cv ρ sa ad (ri_look d ov j))) := funext fun j => by rw [ri_cv_ag (ri_look_ok h.1 h.2) ha]
    simp only [ri_ce]
    rw [e1, e2, e3]
theorem ri_w_get {k : Nat} {e : ri_Ce} (h : mem[k]? = some e) : (ri_w ρ sa aty tyc ad mem)[k]? = some (ad k, ri_ce ρ sa aty tyc ad e) := by
  unfold ri_w
  rw [List.getElem?_mapIdx, h]
  rfl
theorem ri_w_set {k : Nat} {e : ri_Ce} : (ri_w ρ sa aty tyc ad mem).set k (ad k, ri_ce ρ sa aty tyc ad e) = ri_w ρ sa aty tyc ad (mem.set k e) := by
  apply List.ext_getElem?
  intro i
  unfold ri_w
  rw [List.getElem?_mapIdx, List.getElem?_set, List.getElem?_set]
  by_cases hi : k = i
  · subst hi
    by_cases hl : k < mem.length
    · simp [hl]
    · simp [hl]
  · simp [hi]
theorem ri_w_push {q : Nat} {e : ri_Ce} (h : ri_okM mem.length mem) : ri_w ρ sa aty tyc (fun k => if k = mem.length then q else ad k) (mem ++ [e]) = ri_w ρ sa aty tyc ad mem ++ [(q, ri_ce ρ sa aty tyc (fun k => if k = mem.length then q else ad k) e)] := by
  have ha : ri_ag mem.length ad (fun k => if k = mem.length then q else ad k) := fun k hk => if_neg (Nat.ne_of_lt hk)
  apply List.ext_getElem?
  intro i
  unfold ri_w
  by_cases hi : i < mem.length
  · rw [List.getElem?_mapIdx, List.getElem?_append_left hi, List.getElem?_append_left (by simpa using hi), List.getElem?_mapIdx]
    cases hm : mem[i]? with
    | none => rfl
    | some e9 =>
      have he := h e9 (List.mem_of_getElem? hm)
      show some ((fun k => if k = mem.length then q else ad k) i, ri_ce ρ sa aty tyc (fun k => if k = mem.length then q else ad k) e9) = some (ad i, ri_ce ρ sa aty tyc ad e9)
      rw [ri_ce_ag he ha, ha i hi]
  · rw [List.getElem?_mapIdx, List.getElem?_append_right (by omega), List.getElem?_append_right (by simpa using hi)]
    simp only [List.length_mapIdx]
    by_cases h0 : i = mem.length
    · subst h0
      simp
    · have : i - mem.length ≠ 0 := by omega
      obtain ⟨j, hj⟩ : ∃ j, i - mem.length = j + 1 := ⟨i - mem.length - 1, by omega⟩
      rw [hj]
      rfl
theorem ri_w_ag (h : ri_okM n mem) (hn : mem.length ≤ n) (ha : ri_ag n ad ad') : ri_w ρ sa aty tyc ad' mem = ri_w ρ sa aty tyc ad mem := by
  apply List.ext_getElem?
  intro i
  unfold ri_w
  rw [List.getElem?_mapIdx, List.getElem?_mapIdx]
  cases hm : mem[i]? with
  | none => rfl
  | some e9 =>
    have hi : i < mem.length := (List.getElem?_eq_some_iff.mp hm).1
    show some (ad' i, ri_ce ρ sa aty tyc ad' e9) = some (ad i, ri_ce ρ sa aty tyc ad e9)
    rw [ri_ce_ag (h e9 (List.mem_of_getElem? hm)) ha, ha i (Nat.lt_of_lt_of_le hi hn)]
theorem ri_find_filter {ov : List (Nat × Jvm.Term)} {j i : Nat} (h : i ≠ j) : (ov.filter (fun q => !(q.1 == j))).find? (fun q => q.1 == i) = ov.find? (fun q => q.1 == i) := by
  induction ov with
  | nil => rfl
  | cons a l ih =>
    by_cases ha : a.1 = j
    · have h1 : (!(a.1 == j)) = false := by simp [ha]
      have h2 : (a.1 == i) = false := by simp [ha, Ne.symm h]
      rw [List.filter_cons_of_neg (by simp [ha]), List.find?_cons_of_neg (by simp [h2]), ih]
    · rw [List.filter_cons_of_pos (by simp [ha])]
      by_cases h3 : a.1 = i
      · rw [List.find?_cons_of_pos (by simp [h3]), List.find?_cons_of_pos (by simp [h3])]
      · rw [List.find?_cons_of_neg (by simp [h3]), List.find?_cons_of_neg (by simp [h3]), ih]
theorem ri_find_none {ov : List (Nat × Jvm.Term)} {j : Nat} : (ov.filter (fun q => !(q.1 == j))).find? (fun q => q.1 == j) = none := by
  rw [List.find?_eq_none]
  intro q hq
  have h := (List.mem_filter.mp hq).2
  simp at h ⊢
  exact h
theorem ri_sameC_s {t d : Jvm.Term} (h : ri_sameC t d = true) : ri_cv ρ sa ad t = ri_cv ρ sa ad d := by
  unfold ri_sameC at h
  split at h
  · next a b => rw [beq_iff_eq.mp h]
  · next a b => rw [beq_iff_eq.mp h]
  · rfl
  · cases h
theorem ri_put_cv {d t : Jvm.Term} {ov : List (Nat × Jvm.Term)} {j i : Nat} : ri_cv ρ sa ad (ri_look d (ri_put d ov j t) i) = if i = j then ri_cv ρ sa ad t else ri_cv ρ sa ad (ri_look d ov i) := by
  unfold ri_put
  by_cases hij : i = j
  · subst hij
    rw [if_pos rfl]
    split
    · next hs => unfold ri_look; rw [ri_find_none]; exact (ri_sameC_s hs).symm
    · unfold ri_look; rw [List.find?_cons_of_pos (by simp)]
  · rw [if_neg hij]
    split
    · unfold ri_look; rw [ri_find_filter hij]
    · unfold ri_look; rw [List.find?_cons_of_neg (by simpa using Ne.symm hij), ri_find_filter hij]
theorem ri_put_ok {d t : Jvm.Term} {ov : List (Nat × Jvm.Term)} {j : Nat} (ht : ri_ok n t) (ho : ∀ q ∈ ov, ri_ok n q.2) : ∀ q ∈ ri_put d ov j t, ri_ok n q.2 := by
  unfold ri_put
  intro q hq
  split at hq
  · exact ho q (List.mem_filter.mp hq).1
  · rcases List.mem_cons.mp hq with rfl | hq
    · exact ht
    · exact ho q (List.mem_filter.mp hq).1
theorem ri_okM_set {k : Nat} {e : ri_Ce} (h : ri_okM n mem) (he : ri_okC n e) : ri_okM n (mem.set k e) := fun x hx => by
  rcases List.mem_or_eq_of_mem_set hx with h1 | h1
  · exact h x h1
  · rw [h1]; exact he
theorem ri_okM_push {e : ri_Ce} (h : ri_okM n mem) (he : ri_okC (n + 1) e) : ri_okM (n + 1) (mem ++ [e]) := fun x hx => by
  rcases List.mem_append.mp hx with h1 | h1
  · exact ri_okC_mono (h x h1) (Nat.le_succ n)
  · rw [List.mem_singleton.mp h1]; exact he
theorem ri_ok_set {fs : List Jvm.Term} {j : Nat} {t : Jvm.Term} (h : ∀ x ∈ fs, ri_ok n x) (ht : ri_ok n t) : ∀ x ∈ fs.set j t, ri_ok n x := fun x hx => by
  rcases List.mem_or_eq_of_mem_set hx with h1 | h1
  · exact h x h1
  · rw [h1]; exact ht
theorem ri_map_set {fs : List Jvm.Term} {j : Nat} {t : Jvm.Term} : (fs.map (ri_cv ρ sa ad)).set j (ri_cv ρ sa ad t) = (fs.set j t).map (ri_cv ρ sa ad) := by
  rw [List.map_set]
end RIH2
end RIH
end
section
section RII
abbrev ri_Cd : Type := Nat × Jvm.Term × Jvm.Term × Bool
def ri_eqT : Jvm.Term → Jvm.Term → Bool
  | .arg i, .arg j => i == j
  | .int x, .int y => x == y
  | .long x, .long y => x == y
  | .add a b, .add a2 b2 => ri_eqT a a2 && ri_eqT b b2
  | .sub a b, .sub a2 b2 => ri_eqT a a2 && ri_eqT b b2
  | .mul a b, .mul a2 b2 => ri_eqT a a2 && ri_eqT b b2
  | .div a b, .div a2 b2 => ri_eqT a a2 && ri_eqT b b2
  | .rem a b, .rem a2 b2 => ri_eqT a a2 && ri_eqT b b2
  | .op2 o a b, .op2 o2 a2 b2 => decide (o = o2) && (ri_eqT a a2 && ri_eqT b b2)
  | .op1 o a, .op1 o2 a2 => decide (o = o2) && ri_eqT a a2
  | .null, .null => true
  | .index i, .index j => i == j
  | .string c i, .string c2 i2 => i == i2 && c == c2
  | _, _ => false
theorem ri_eqT_s : ∀ (a b : Jvm.Term), ri_eqT a b = true → a = b := by
  intro a
  induction a with
  | arg i => intro b h; cases b <;> simp [ri_eqT] at h; rw [h]
  | int i => intro b h; cases b <;> simp [ri_eqT] at h; rw [h]
  | long i => intro b h; cases b <;> simp [ri_eqT] at h; rw [h]
  | add x y hx hy => intro b h; cases b <;> simp [ri_eqT] at h; rw [hx _ h.1, hy _ h.2]
  | sub x y hx hy => intro b h; cases b <;> simp [ri_eqT] at h; rw [hx _ h.1, hy _ h.2]
  | mul x y hx hy => intro b h; cases b <;> simp [ri_eqT] at h; rw [hx _ h.1, hy _ h.2]
  | div x y hx hy => intro b h; cases b <;> simp [ri_eqT] at h; rw [hx _ h.1, hy _ h.2]
  | rem x y hx hy => intro b h; cases b <;> simp [ri_eqT] at h; rw [hx _ h.1, hy _ h.2]
  | op2 o x y hx hy => intro b h; cases b <;> simp [ri_eqT] at h; rw [h.1, hx _ h.2.1, hy _ h.2.2]
  | op1 o x hx => intro b h; cases b <;> simp [ri_eqT] at h; rw [h.1, hx _ h.2]
  | null => intro b h; cases b <;> simp [ri_eqT] at h; rfl
  | index i => intro b h; cases b <;> simp [ri_eqT] at h; rw [h]
  | string c i => intro b h; cases b <;> simp [ri_eqT] at h; rw [h.1, h.2]
  | _ => intro b h; cases b <;> simp [ri_eqT] at h
/-- the value of an int, of a long that hangs on no cell -/
def ri_iv (ρ : Nat → Int32) (t : Jvm.Term) : Int32 := ri_gI (ri_cv ρ (fun _ _ => 0) (fun _ => 0) t)
def ri_il (ρ : Nat → Int32) (t : Jvm.Term) : Int64 := ri_gL (ri_cv ρ (fun _ _ => 0) (fun _ => 0) t)
theorem ri_iv_eq {ρ : Nat → Int32} {sa sa' : String → Nat → Nat} {ad ad' : Nat → Nat} (t : Jvm.Term) : ri_gI (ri_cv ρ sa ad t) = ri_gI (ri_cv ρ sa' ad' t) ∧ ri_gL (ri_cv ρ sa ad t) = ri_gL (ri_cv ρ sa' ad' t) := ⟨(ri_key t).1, (ri_key t).2.1⟩
theorem ri_ivI {ρ : Nat → Int32} {sa : String → Nat → Nat} {ad : Nat → Nat} {t : Jvm.Term} (h : ri_k t = 0) : ri_cv ρ sa ad t = .int (ri_iv ρ t) := by
  rw [ri_I h]
  unfold ri_iv
  rw [(ri_iv_eq t).1]
/-- what held on a way: 0: equal, else: less -/
def ri_rel (k : Nat) (x y : Int32) : Prop := match k with
  | 0 => x = y
  | _ => x < y
def ri_sat (ρ : Nat → Int32) (q : ri_Cd) : Prop := q.2.2.2 = true ↔ ri_rel q.1 (ri_iv ρ q.2.1) (ri_iv ρ q.2.2.1)
/-- bounds -/
def ri_B (r : Int × Int) (x : Int) : Prop := r.1 ≤ x ∧ x ≤ r.2
def ri_F32 : Int × Int := (-2147483648, 2147483647)
def ri_F64 : Int × Int := (-9223372036854775808, 9223372036854775807)
def ri_c32 (r : Int × Int) : Int × Int := if -2147483648 ≤ r.1 ∧ r.2 ≤ 2147483647 then r else ri_F32
def ri_c64 (r : Int × Int) : Int × Int := if -9223372036854775808 ≤ r.1 ∧ r.2 ≤ 9223372036854775807 then r else ri_F64
/-- bounds, narrowed by what held -/
def ri_nw (t : Jvm.Term) (q : ri_Cd) (r : Int × Int) : Int × Int := match q.2.2.1 with
  | .int c => if ri_eqT q.2.1 t = true then (match q.1 with
    | 0 => if q.2.2.2 = true then (max r.1 c.toInt, min r.2 c.toInt) else (if r.1 = c.toInt then r.1 + 1 else r.1, if r.2 = c.toInt then r.2 - 1 else r.2)
    | _ => if q.2.2.2 = true then (r.1, min r.2 (c.toInt - 1)) else (max r.1 c.toInt, r.2)) else r
  | _ => r
/-- twice, for what is unequal to a bound found later -/
def ri_fd (cs : List ri_Cd) (t : Jvm.Term) (r : Int × Int) : Int × Int := cs.foldr (ri_nw t) (cs.foldr (ri_nw t) r)
def ri_m4 (a b c d : Int) : Int × Int := (min (min a b) (min c d), max (max a b) (max c d))
def ri_cmpB (a b : Int × Int) : Int × Int := if a.2 < b.1 then (-1, -1) else if b.2 < a.1 then (1, 1) else (if b.2 ≤ a.1 then 0 else -1, if a.2 ≤ b.1 then 0 else 1)
def ri_bd (cs : List ri_Cd) : Jvm.Term → Int × Int
  | .int v => (v.toInt, v.toInt)
  | .long v => (v.toInt, v.toInt)
  | .add a b => ri_fd cs ((.add a b)) (if ri_k a = 0 ∧ ri_k b = 0 then ri_c32 ((ri_bd cs a).1 + (ri_bd cs b).1, (ri_bd cs a).2 + (ri_bd cs b).2) else ri_F32)
  | .sub a b => ri_fd cs ((.sub a b)) (if ri_k a = 0 ∧ ri_k b = 0 then ri_c32 ((ri_bd cs a).1 - (ri_bd cs b).2, (ri_bd cs a).2 - (ri_bd cs b).1) else ri_F32)
  | .mul a b => ri_fd cs ((.mul a b)) (if ri_k a = 0 ∧ ri_k b = 0 then ri_c32 (ri_m4 ((ri_bd cs a).1 * (ri_bd cs b).1) ((ri_bd cs a).1 * (ri_bd cs b).2) ((ri_bd cs a).2 * (ri_bd cs b).1) ((ri_bd cs a).2 * (ri_bd cs b).2)) else ri_F32)
  | .div a b => ri_fd cs ((.div a b)) (if ri_k a = 0 then (match b with
    | .int c => if 0 < c.toInt then ri_c32 ((ri_bd cs a).1.tdiv c.toInt, (ri_bd cs a).2.tdiv c.toInt) else ri_F32
    | _ => ri_F32) else ri_F32)
  | .rem a b => ri_fd cs ((.rem a b)) (if ri_k a = 0 then (match b with
    | .int c => if 0 < c.toInt then (if 0 ≤ (ri_bd cs a).1 then (0, min (c.toInt - 1) (ri_bd cs a).2) else (-(c.toInt - 1), c.toInt - 1)) else ri_F32
    | _ => ri_F32) else ri_F32)
  | .op2 o a b => match ri_ko o with
    | 0 => ri_fd cs ((.op2 o a b)) (match o, b with
      | .iand, .int c => if 0 ≤ c.toInt then (0, c.toInt) else ri_F32
      | _, _ => ri_F32)
    | 1 => if ri_k a = 1 ∧ ri_k b = 1 then (match o with
      | .ladd => ri_c64 ((ri_bd cs a).1 + (ri_bd cs b).1, (ri_bd cs a).2 + (ri_bd cs b).2)
      | .lsub => ri_c64 ((ri_bd cs a).1 - (ri_bd cs b).2, (ri_bd cs a).2 - (ri_bd cs b).1)
      | _ => ri_F64) else ri_F64
    | _ => if ri_k a = 1 ∧ ri_k b = 1 then ri_fd cs ((.op2 o a b)) (ri_cmpB (ri_bd cs a) (ri_bd cs b)) else ri_F32
  | .op1 o a => match o with
    | .i2l => if ri_k a = 0 then ri_bd cs a else ri_F64
    | .ineg => ri_fd cs ((.op1 o a)) (if ri_k a = 0 then ri_c32 (-(ri_bd cs a).2, -(ri_bd cs a).1) else ri_F32)
    | .l2i => ri_fd cs ((.op1 o a)) ri_F32
    | _ => ri_F64
  | t => ri_fd cs (t) ri_F32
section RII1
variable {ρ : Nat → Int32} {cs : List ri_Cd}
theorem ri_B32 (x : Int32) : ri_B ri_F32 x.toInt := ⟨Int32.le_toInt x, Int32.toInt_le x⟩
theorem ri_B64 (x : Int64) : ri_B ri_F64 x.toInt := ⟨Int64.le_toInt x, Int64.toInt_le x⟩
theorem ri_nw_s {t : Jvm.Term} {q : ri_Cd} {r : Int × Int} (hq : ri_sat ρ q) (h : ri_B r (ri_iv ρ t).toInt) : ri_B (ri_nw t q r) (ri_iv ρ t).toInt := by
  obtain ⟨k, a, b, v⟩ := q
  unfold ri_nw
  dsimp only
  split
  · next c =>
    split
    · next he =>
      have e := ri_eqT_s _ _ he
      subst e
      have ec : ri_iv ρ (.int c) = c := rfl
      unfold ri_sat at hq
      dsimp only at hq
      rw [ec] at hq
      obtain ⟨h1, h2⟩ := h
      split
      · have hr : ri_rel 0 (ri_iv ρ a) c ↔ ri_iv ρ a = c := Iff.rfl
        rw [hr] at hq
        split
        · next hv =>
          have e := hq.mp hv
          rw [← e]
          exact ⟨by dsimp only; omega, by dsimp only; omega⟩
        · next hv =>
          have e : (ri_iv ρ a).toInt ≠ c.toInt := fun z => hv (hq.mpr (Int32.toInt_inj.mp z))
          refine ⟨?_, ?_⟩
          · dsimp only; split <;> omega
          · dsimp only; split <;> omega
      · next hk =>
        have hr : ri_rel k (ri_iv ρ a) c ↔ ri_iv ρ a < c := by
          cases k with
          | zero => exact absurd rfl hk
          | succ k => exact Iff.rfl
        rw [hr, Int32.lt_iff_toInt_lt] at hq
        split
        · next hv =>
          have e := hq.mp hv
          exact ⟨h1, by dsimp only; omega⟩
        · next hv =>
          have e : ¬ (ri_iv ρ a).toInt < c.toInt := fun z => hv (hq.mpr z)
          exact ⟨by dsimp only; omega, h2⟩
    · exact h
  · exact h
theorem ri_fold0_s {t : Jvm.Term} {r : Int × Int} (hs : ∀ q ∈ cs, ri_sat ρ q) (h : ri_B r (ri_iv ρ t).toInt) : ri_B (cs.foldr (ri_nw t) r) (ri_iv ρ t).toInt := by
  induction cs with
  | nil => exact h
  | cons q l ih => exact ri_nw_s (hs q List.mem_cons_self) (ih fun z hz => hs z (List.mem_cons_of_mem _ hz))
theorem ri_fold_s {t : Jvm.Term} {r : Int × Int} (hs : ∀ q ∈ cs, ri_sat ρ q) (h : ri_B r (ri_iv ρ t).toInt) : ri_B (ri_fd cs t r) (ri_iv ρ t).toInt := ri_fold0_s hs (ri_fold0_s hs h)
theorem ri_c32_s {r : Int × Int} {x : Int32} {n : Int} (hx : x.toInt = n.bmod (2 ^ 32)) (h : ri_B r n) : ri_B (ri_c32 r) x.toInt := by
  unfold ri_c32
  split
  · next hc =>
    rw [hx, Int.bmod_eq_of_le (by obtain ⟨h1, h2⟩ := h; omega) (by obtain ⟨h1, h2⟩ := h; omega)]
    exact h
  · exact ri_B32 x
theorem ri_c64_s {r : Int × Int} {x : Int64} {n : Int} (hx : x.toInt = n.bmod (2 ^ 64)) (h : ri_B r n) : ri_B (ri_c64 r) x.toInt := by
  unfold ri_c64
  split
  · next hc =>
    rw [hx, Int.bmod_eq_of_le (by obtain ⟨h1, h2⟩ := h; omega) (by obtain ⟨h1, h2⟩ := h; omega)]
    exact h
  · exact ri_B64 x
theorem ri_m4_s {a b : Int × Int} {x y : Int} (hx : ri_B a x) (hy : ri_B b y) : ri_B (ri_m4 (a.1 * b.1) (a.1 * b.2) (a.2 * b.1) (a.2 * b.2)) (x * y) := by
  obtain ⟨h1, h2⟩ := hx
  obtain ⟨h3, h4⟩ := hy
  have key : ∀ u v w z : Int, u ≤ v → v ≤ w → min (u * z) (w * z) ≤ v * z ∧ v * z ≤ max (u * z) (w * z) := by
    intro u v w z huv hvw
    rcases Int.le_total 0 z with hz | hz
    · exact ⟨Int.le_trans (Int.min_le_left _ _) (Int.mul_le_mul_of_nonneg_right huv hz), Int.le_trans (Int.mul_le_mul_of_nonneg_right hvw hz) (Int.le_max_right _ _)⟩
    · exact ⟨Int.le_trans (Int.min_le_right _ _) (Int.mul_le_mul_of_nonpos_right hvw hz), Int.le_trans (Int.mul_le_mul_of_nonpos_right huv hz) (Int.le_max_left _ _)⟩
  have k1 := key a.1 x a.2 y h1 h2
  have k2 := key b.1 y b.2 a.1 h3 h4
  have k3 := key b.1 y b.2 a.2 h3 h4
  rw [Int.mul_comm b.1, Int.mul_comm b.2, Int.mul_comm y] at k2 k3
  unfold ri_m4 ri_B
  dsimp only
  omega
theorem ri_cmpB_s {a b : Int × Int} {x y : Int64} (hx : ri_B a x.toInt) (hy : ri_B b y.toInt) : ri_B (ri_cmpB a b) (lg_cmp x y).toInt := by
  obtain ⟨h1, h2⟩ := hx
  obtain ⟨h3, h4⟩ := hy
  have e1 : (1 : Int32).toInt = 1 := by decide
  have e0 : (0 : Int32).toInt = 0 := by decide
  have em : (-1 : Int32).toInt = -1 := by decide
  have hc : (lg_cmp x y).toInt = if y.toInt < x.toInt then 1 else if x.toInt = y.toInt then 0 else -1 := by
    unfold lg_cmp
    by_cases z : x > y
    · rw [if_pos z, e1, if_pos (Int64.lt_iff_toInt_lt.mp z)]
    · rw [if_neg z, if_neg (fun q => z (Int64.lt_iff_toInt_lt.mpr q))]
      by_cases w : x = y
      · rw [if_pos w, e0, if_pos (by rw [w])]
      · rw [if_neg w, em, if_neg (fun q => w (Int64.toInt_inj.mp q))]
  rw [hc]
  unfold ri_cmpB ri_B
  repeat' split
  all_goals (refine ⟨?_, ?_⟩ <;> dsimp only <;> (repeat' split) <;> omega)
theorem ri_div_s {a c : Int32} {r : Int × Int} (hc : 0 < c.toInt) (h : ri_B r a.toInt) : ri_B (ri_c32 (r.1.tdiv c.toInt, r.2.tdiv c.toInt)) (a / c).toInt :=
  ri_c32_s (Int32.toInt_div a c) ⟨Int.tdiv_le_tdiv hc h.1, Int.tdiv_le_tdiv hc h.2⟩
theorem ri_rem_s {a c : Int32} {r : Int × Int} (hc : 0 < c.toInt) (h : ri_B r a.toInt) : ri_B (if 0 ≤ r.1 then (0, min (c.toInt - 1) r.2) else (-(c.toInt - 1), c.toInt - 1)) (a - a / c * c).toInt := by
  have h1 := Int.natAbs_tdiv_le_natAbs a.toInt c.toInt
  have h2 := Int.tmod_add_mul_tdiv a.toInt c.toInt
  have h3 := Int.tmod_lt_of_pos a.toInt hc
  have h4 := Int.lt_tmod_of_pos a.toInt hc
  have h5 : -2147483648 ≤ a.toInt := Int32.le_toInt a
  have h6 : a.toInt ≤ 2147483647 := Int32.toInt_le a
  have h7 : c.toInt ≤ 2147483647 := Int32.toInt_le c
  have hn : a.toInt < 0 → a.toInt.tmod c.toInt ≤ 0 := fun z => by
    have := Int.tmod_nonneg c.toInt (a := -a.toInt) (by omega)
    rw [Int.neg_tmod] at this
    omega
  have hp : 0 ≤ a.toInt → 0 ≤ a.toInt.tmod c.toInt := fun z => Int.tmod_nonneg _ z
  have h8 : 0 ≤ a.toInt → a.toInt.tmod c.toInt ≤ a.toInt := fun z => by
    have := Int.mul_nonneg (Int.le_of_lt hc) (Int.tdiv_nonneg z (Int.le_of_lt hc))
    omega
  have h9 : a.toInt < 0 → a.toInt ≤ a.toInt.tmod c.toInt := fun z => by
    have := Int.mul_nonneg (Int.le_of_lt hc) (Int.tdiv_nonneg (a := -a.toInt) (by omega) (Int.le_of_lt hc))
    rw [Int.neg_tdiv, Int.mul_neg] at this
    omega
  have e1 : (a / c).toInt = a.toInt.tdiv c.toInt := by rw [Int32.toInt_div, Int.bmod_eq_of_le (by omega) (by
    rcases Int.lt_or_le a.toInt 0 with z | z
    · have := Int.tdiv_nonneg (a := -a.toInt) (b := c.toInt) (by omega) (Int.le_of_lt hc)
      rw [Int.neg_tdiv] at this
      omega
    · omega)]
  have e2 : (a / c * c).toInt = c.toInt * a.toInt.tdiv c.toInt := by
    rw [Int32.toInt_mul, e1, Int.mul_comm, Int.bmod_eq_of_le (by omega) (by omega)]
  have e3 : (a - a / c * c).toInt = a.toInt.tmod c.toInt := by
    rw [Int32.toInt_sub, e2, Int.bmod_eq_of_le (by omega) (by omega)]
    omega
  rw [e3]
  obtain ⟨q1, q2⟩ := h
  split
  · exact ⟨hp (by omega), by dsimp only; have := h8 (by omega); omega⟩
  · exact ⟨by dsimp only; omega, by dsimp only; omega⟩
theorem ri_and_s {a c : Int32} (hc : 0 ≤ c.toInt) : ri_B (0, c.toInt) (a &&& c).toInt := by
  have h1 : (a &&& c).toBitVec.toNat ≤ c.toBitVec.toNat := by rw [Int32.toBitVec_and, BitVec.toNat_and]; exact Nat.and_le_right
  have h2 : c.toInt = if 2 * c.toBitVec.toNat < 2 ^ 32 then (c.toBitVec.toNat : Int) else (c.toBitVec.toNat : Int) - (2 ^ 32 : Nat) := rfl
  have h3 : (a &&& c).toInt = if 2 * (a &&& c).toBitVec.toNat < 2 ^ 32 then ((a &&& c).toBitVec.toNat : Int) else ((a &&& c).toBitVec.toNat : Int) - (2 ^ 32 : Nat) := rfl
  have h4 := c.toBitVec.isLt
  unfold ri_B
  rw [h3]
  split at h2
  · rw [h2, if_pos (by omega)]
    dsimp only
    omega
  · omega
set_option maxHeartbeats 2000000 in
theorem ri_bd_s (hs : ∀ q ∈ cs, ri_sat ρ q) (t : Jvm.Term) : (ri_k t = 0 → ri_B (ri_bd cs t) (ri_iv ρ t).toInt) ∧ (ri_k t = 1 → ri_B (ri_bd cs t) (ri_il ρ t).toInt) := by
  have fin : ∀ (t : Jvm.Term), ri_B (ri_fd cs (t) ri_F32) (ri_iv ρ t).toInt := fun t => ri_fold_s hs (ri_B32 _)
  induction t with
  | int v => exact ⟨fun _ => ⟨Int.le_refl _, Int.le_refl _⟩, fun h => by cases h⟩
  | long v => exact ⟨fun h => (by cases h), fun _ => ⟨Int.le_refl _, Int.le_refl _⟩⟩
  | add a b ha hb =>
    refine ⟨fun _ => ri_fold_s hs ?_, fun h => by cases h⟩
    split
    · next hk => exact ri_c32_s (Int32.toInt_add _ _) ⟨Int.add_le_add (ha.1 hk.1).1 (hb.1 hk.2).1, Int.add_le_add (ha.1 hk.1).2 (hb.1 hk.2).2⟩
    · exact ri_B32 _
  | sub a b ha hb =>
    refine ⟨fun _ => ri_fold_s hs ?_, fun h => by cases h⟩
    split
    · next hk => exact ri_c32_s (Int32.toInt_sub _ _) ⟨Int.sub_le_sub (ha.1 hk.1).1 (hb.1 hk.2).2, Int.sub_le_sub (ha.1 hk.1).2 (hb.1 hk.2).1⟩
    · exact ri_B32 _
  | mul a b ha hb =>
    refine ⟨fun _ => ri_fold_s hs ?_, fun h => by cases h⟩
    split
    · next hk => exact ri_c32_s (Int32.toInt_mul _ _) (ri_m4_s (ha.1 hk.1) (hb.1 hk.2))
    · exact ri_B32 _
  | div a b ha hb =>
    refine ⟨fun _ => ri_fold_s hs ?_, fun h => by cases h⟩
    split
    · next hk =>
      split
      · split
        · next hc => exact ri_div_s hc (ha.1 hk)
        · exact ri_B32 _
      · exact ri_B32 _
    · exact ri_B32 _
  | rem a b ha hb =>
    refine ⟨fun _ => ri_fold_s hs ?_, fun h => by cases h⟩
    split
    · next hk =>
      split
      · split
        · next hc => exact ri_rem_s hc (ha.1 hk)
        · exact ri_B32 _
      · exact ri_B32 _
    · exact ri_B32 _
  | op2 o a b ha hb =>
    cases o with
    | iand =>
      refine ⟨fun _ => ri_fold_s hs ?_, fun h => by cases h⟩
      split
      · next hc =>
        split
        · next h0 => exact ri_and_s h0
        · exact ri_B32 _
      · exact ri_B32 _
    | ior => exact ⟨fun _ => fin _, fun h => by cases h⟩
    | ixor => exact ⟨fun _ => fin _, fun h => by cases h⟩
    | ishl => exact ⟨fun _ => fin _, fun h => by cases h⟩
    | ishr => exact ⟨fun _ => fin _, fun h => by cases h⟩
    | iushr => exact ⟨fun _ => fin _, fun h => by cases h⟩
    | ladd =>
      refine ⟨fun h => (by cases h), fun _ => ?_⟩
      show ri_B (if ri_k a = 1 ∧ ri_k b = 1 then ri_c64 ((ri_bd cs a).1 + (ri_bd cs b).1, (ri_bd cs a).2 + (ri_bd cs b).2) else ri_F64) _
      split
      · next hk => exact ri_c64_s (Int64.toInt_add _ _) ⟨Int.add_le_add (ha.2 hk.1).1 (hb.2 hk.2).1, Int.add_le_add (ha.2 hk.1).2 (hb.2 hk.2).2⟩
      · exact ri_B64 _
    | lsub =>
      refine ⟨fun h => (by cases h), fun _ => ?_⟩
      show ri_B (if ri_k a = 1 ∧ ri_k b = 1 then ri_c64 ((ri_bd cs a).1 - (ri_bd cs b).2, (ri_bd cs a).2 - (ri_bd cs b).1) else ri_F64) _
      split
      · next hk => exact ri_c64_s (Int64.toInt_sub _ _) ⟨Int.sub_le_sub (ha.2 hk.1).1 (hb.2 hk.2).2, Int.sub_le_sub (ha.2 hk.1).2 (hb.2 hk.2).1⟩
      · exact ri_B64 _
    | lmul => exact ⟨fun h => (by cases h), fun _ => by
        show ri_B (if ri_k a = 1 ∧ ri_k b = 1 then ri_F64 else ri_F64) _
        split <;> exact ri_B64 _⟩
    | land => exact ⟨fun h => (by cases h), fun _ => by
        show ri_B (if ri_k a = 1 ∧ ri_k b = 1 then ri_F64 else ri_F64) _
        split <;> exact ri_B64 _⟩
    | lor => exact ⟨fun h => (by cases h), fun _ => by
        show ri_B (if ri_k a = 1 ∧ ri_k b = 1 then ri_F64 else ri_F64) _
        split <;> exact ri_B64 _⟩
    | lxor => exact ⟨fun h => (by cases h), fun _ => by
        show ri_B (if ri_k a = 1 ∧ ri_k b = 1 then ri_F64 else ri_F64) _
        split <;> exact ri_B64 _⟩
    | lcmp =>
      refine ⟨fun _ => ?_, fun h => by cases h⟩
      show ri_B (if ri_k a = 1 ∧ ri_k b = 1 then ri_fd cs ((.op2 .lcmp a b)) (ri_cmpB (ri_bd cs a) (ri_bd cs b)) else ri_F32) _
      split
      · next hk => exact ri_fold_s hs (ri_cmpB_s (ha.2 hk.1) (hb.2 hk.2))
      · exact ri_B32 _
    | _ => exact ⟨fun h => (by cases h), fun h => (by cases h)⟩
  | op1 o a ha =>
    cases o with
    | i2l =>
      refine ⟨fun h => (by cases h), fun _ => ?_⟩
      show ri_B (if ri_k a = 0 then ri_bd cs a else ri_F64) _
      split
      · next hk => rw [show ri_il ρ (.op1 .i2l a) = (ri_iv ρ a).toInt64 from rfl, Int32.toInt_toInt64]; exact ha.1 hk
      · exact ri_B64 _
    | ineg =>
      refine ⟨fun _ => ri_fold_s hs ?_, fun h => by cases h⟩
      split
      · next hk => exact ri_c32_s (Int32.toInt_neg _) ⟨Int.neg_le_neg (ha.1 hk).2, Int.neg_le_neg (ha.1 hk).1⟩
      · exact ri_B32 _
    | l2i => exact ⟨fun _ => fin _, fun h => by cases h⟩
    | _ => exact ⟨fun h => (by cases h), fun h => (by cases h)⟩
  | _ => first | exact ⟨fun _ => fin _, fun h => (by cases h)⟩ | exact ⟨fun h => (by cases h), fun h => (by cases h)⟩
end RII1
end RII
end
section
/-! RI: tables of the program; the instructions that touch the heap, one way on -/
section RIT
/-- a method: its owner, its name, code, locals, answer, decoded code (by place), the number of its owner's table of links, its handlers -/
abbrev ri_Mt : Type := String × MethodName × ByteArray × Nat × Option FieldType × List (Option (Instr × Nat)) × Nat × List (Nat × Nat × Nat × Nat)
abbrev ri_own (M : ri_Mt) : String := M.1
abbrev ri_nm (M : ri_Mt) : MethodName := M.2.1
abbrev ri_by (M : ri_Mt) : ByteArray := M.2.2.1
abbrev ri_mx (M : ri_Mt) : Nat := M.2.2.2.1
abbrev ri_rt (M : ri_Mt) : Option FieldType := M.2.2.2.2.1
abbrev ri_co (M : ri_Mt) : List (Option (Instr × Nat)) := M.2.2.2.2.2.1
abbrev ri_pn (M : ri_Mt) : Nat := M.2.2.2.2.2.2.1
abbrev ri_hh (M : ri_Mt) : List (Nat × Nat × Nat × Nat) := M.2.2.2.2.2.2.2
/-- the word of its code -/
def ri_hw (M : ri_Mt) : Jvm.Cond := match ri_hh M with
  | [] => .code (ri_nm M) (ri_by M) (ri_mx M) (ri_rt M)
  | h :: t => .codeWith (ri_nm M) (ri_by M) (ri_mx M) (ri_rt M) (h :: t)
/-- a link: its sort, two numbers, a text: 0 a field of class a at place b; 1 the same of a nest mate (text: the host); 20 a method a of b arguments, of an object, 21 static, 22 a constructor; 30, 31, 32 the same of a nest mate; 4 a class a; 5 the class of an exception (text), b the place of its text; 6 (at 100000 more) an array over type a of the list; 7 Object(); 8 the int constant a - b; 14 the long; 9 a String; 10 max; 11 min; 12 arraycopy; 13 the constructor of an exception -/
abbrev ri_Lk : Type := Nat × Nat × Nat × String
/-- classes, array types, methods, links, field types -/
abbrev ri_Tb : Type := List vw_C × List FieldType × List ri_Mt × List (List (Nat × ri_Lk)) × List (List FieldType) × List (String × String × Bool)
abbrev ri_cls (G : ri_Tb) : List vw_C := G.1
abbrev ri_aty (G : ri_Tb) : List FieldType := G.2.1
abbrev ri_mts (G : ri_Tb) : List ri_Mt := G.2.2.1
abbrev ri_cps (G : ri_Tb) : List (List (Nat × ri_Lk)) := G.2.2.2.1
abbrev ri_fts (G : ri_Tb) : List (List FieldType) := G.2.2.2.2.1
/-- which exception is of which kind -/
abbrev ri_nc (G : ri_Tb) : List (String × String × Bool) := G.2.2.2.2.2
/-- a way out: what held on the way, the world, the answer or the exception -/
abbrev ri_Lf : Type := List ri_Cd × ri_Me × (Option Jvm.Term ⊕ String)
/-- an index that must be in range: what held, the index, the length -/
abbrev ri_Ob : Type := List ri_Cd × Jvm.Term × Nat
abbrev ri_Rs : Type := List ri_Lf × Nat × Nat × List ri_Ob
def ri_cp (G : ri_Tb) (M : ri_Mt) (idx : Nat) : Option ri_Lk := (((ri_cps G).getD (ri_pn M) []).find? (fun q => q.1 == idx)).map (fun q => q.2)
/-- a field or a component of the type may hold the value -/
def ri_fit (ty : FieldType) (t : Jvm.Term) : Bool := match ty with
  | .int => ri_k t == 0
  | .long => ri_k t == 1
  | .object _ => ri_k t == 2 || ri_k t == 3
  | .array _ => ri_k t == 2 || ri_k t == 3
  | .double => ri_k t == 4
  | .float => ri_k t == 5
  | .boolean => match t with
    | .int v => v == 0 || v == 1
    | _ => false
  | _ => false
theorem ri_fit_s {ρ : Nat → Int32} {sa : String → Nat → Nat} {ad : Nat → Nat} {ty : FieldType} {t : Jvm.Term} (h : ri_fit ty t = true) : narrow ty (ri_cv ρ sa ad t) = ri_cv ρ sa ad t ∧ fits ty (ri_cv ρ sa ad t) = true := by
  cases ty with
  | int => rw [ri_I (beq_iff_eq.mp h)]; exact ⟨rfl, rfl⟩
  | long => rw [ri_L (beq_iff_eq.mp h)]; exact ⟨rfl, rfl⟩
  | double => obtain ⟨b, hb⟩ := ri_Dd (ρ := ρ) (sa := sa) (ad := ad) (beq_iff_eq.mp h); rw [hb]; exact ⟨rfl, rfl⟩
  | float => obtain ⟨b, hb⟩ := ri_Ff (ρ := ρ) (sa := sa) (ad := ad) (beq_iff_eq.mp h); rw [hb]; exact ⟨rfl, rfl⟩
  | object n =>
    rcases (Bool.or_eq_true _ _).mp h with h | h
    · obtain ⟨a, ha⟩ := ri_R (ρ := ρ) (sa := sa) (ad := ad) (beq_iff_eq.mp h); rw [ha]; exact ⟨rfl, rfl⟩
    · rw [ri_N (beq_iff_eq.mp h)]; exact ⟨rfl, rfl⟩
  | array n =>
    rcases (Bool.or_eq_true _ _).mp h with h | h
    · obtain ⟨a, ha⟩ := ri_R (ρ := ρ) (sa := sa) (ad := ad) (beq_iff_eq.mp h); rw [ha]; exact ⟨rfl, rfl⟩
    · rw [ri_N (beq_iff_eq.mp h)]; exact ⟨rfl, rfl⟩
  | boolean =>
    simp only [ri_fit] at h
    split at h
    · next v =>
      rcases (Bool.or_eq_true _ _).mp h with h | h
      · rw [beq_iff_eq.mp h]; exact ⟨rfl, rfl⟩
      · rw [beq_iff_eq.mp h]; exact ⟨rfl, rfl⟩
    · cases h
  | _ => cases h
def ri_dft : FieldType → Jvm.Term
  | .byte => .int 0 | .char => .int 0 | .short => .int 0 | .boolean => .int 0 | .int => .int 0
  | .long => .long 0
  | .double => .op1 .bitsD (.long 0)
  | .float => .op1 .bitsF (.int 0)
  | _ => .null
theorem ri_dft_s {ρ : Nat → Int32} {sa : String → Nat → Nat} {ad : Nat → Nat} (ty : FieldType) : ri_cv ρ sa ad (ri_dft ty) = defaultValue ty := by cases ty <;> rfl
theorem ri_dft_ok {n : Nat} (ty : FieldType) : ri_ok n (ri_dft ty) := by cases ty <;> exact trivial
/-- a constant index in range, as a number -/
def ri_ix (i : Jvm.Term) (n : Nat) : Option Nat := match i with
  | .int v => if v < 0 ∨ n ≤ v.toNatClampNeg then none else some v.toNatClampNeg
  | _ => none
theorem ri_ix_s {i : Jvm.Term} {n j : Nat} (h : ri_ix i n = some j) : ∃ v : Int32, i = .int v ∧ vp_in v n ∧ v.toNatClampNeg = j ∧ j < n := by
  unfold ri_ix at h
  split at h
  · next v =>
    split at h
    · cases h
    · next hv => cases h; exact ⟨v, rfl, hv, rfl, Nat.not_le.mp fun q => hv (Or.inr q)⟩
  · cases h
abbrev ri_H1 : Type := Nat × List Jvm.Term × ri_Me × Nat × Nat × List ri_Ob
def ri_getf (G : ri_Tb) (M : ri_Mt) (idx : Nat) (st : List Jvm.Term) (mem : ri_Me) : Option ri_H1 := match ri_cp G M idx, st with
  | some (kd, ci, j, _), .index k :: r => match mem[k]? with
    | some (.inl (ci2, fs)) => match fs[j]? with
      | some t => if kd ≤ 1 ∧ ci2 = ci then some (3, t :: r, mem, 0, 0, []) else none
      | none => none
    | _ => none
  | _, _ => none
def ri_putf (G : ri_Tb) (M : ri_Mt) (idx : Nat) (st : List Jvm.Term) (mem : ri_Me) : Option ri_H1 := match ri_cp G M idx, st with
  | some (kd, ci, j, _), t :: .index k :: r => match mem[k]?, (ri_cls G)[ci]?, ((ri_fts G).getD ci [])[j]? with
    | some (.inl (ci2, fs)), some (_, T, _), some ty => if kd ≤ 1 ∧ ci2 = ci ∧ j < fs.length ∧ ri_fit ty t = true ∧ ((T j).2.2.2 = false ∨ (kd = 0 ∧ (ri_nm M).name = "<init>" ∧ (T j).1 = ri_own M)) then some (3, r, mem.set k (.inl (ci, fs.set j t)), 0, 0, []) else none
    | _, _, _ => none
  | _, _ => none
def ri_iald (G : ri_Tb) (cs : List ri_Cd) (st : List Jvm.Term) (mem : ri_Me) : Option ri_H1 := match st with
  | i :: .index k :: r => match mem[k]? with
    | some (.inr (ty, n, d, ov)) => if (ri_aty G)[ty]? = some .int then (match ri_ix i n with
        | some j => if ri_k (ri_look d ov j) = 0 then some (1, ri_look d ov j :: r, mem, 0, 0, []) else none
        | none => match ov with
          | [] => if ri_k i = 0 ∧ ri_k d = 0 ∧ 0 ≤ (ri_bd cs i).1 ∧ (ri_bd cs i).2 < (n : Int) then some (1, d :: r, mem, 0, 0, []) else none
          | _ => none) else none
    | _ => none
  | _ => none
def ri_iast (G : ri_Tb) (st : List Jvm.Term) (mem : ri_Me) : Option ri_H1 := match st with
  | t :: i :: .index k :: r => match mem[k]? with
    | some (.inr (ty, n, d, ov)) => match ri_ix i n with
      | some j => if (ri_aty G)[ty]? = some .int ∧ ri_k t = 0 then some (1, r, mem.set k (.inr (ty, n, d, ri_put d ov j t)), 0, 0, []) else none
      | none => none
    | _ => none
  | _ => none
def ri_lald (G : ri_Tb) (st : List Jvm.Term) (mem : ri_Me) : Option ri_H1 := match st with
  | i :: .index k :: r => match mem[k]? with
    | some (.inr (ty, n, d, ov)) => match ri_ix i n with
      | some j => if (ri_aty G)[ty]? = some .long ∧ ri_k (ri_look d ov j) = 1 then some (1, ri_look d ov j :: r, mem, 0, 0, []) else none
      | none => none
    | _ => none
  | _ => none
def ri_last (G : ri_Tb) (st : List Jvm.Term) (mem : ri_Me) : Option ri_H1 := match st with
  | t :: i :: .index k :: r => match mem[k]? with
    | some (.inr (ty, n, d, ov)) => match ri_ix i n with
      | some j => if (ri_aty G)[ty]? = some .long ∧ ri_k t = 1 then some (1, r, mem.set k (.inr (ty, n, d, ri_put d ov j t)), 0, 0, []) else none
      | none => none
    | _ => none
  | _ => none
def ri_aald (G : ri_Tb) (st : List Jvm.Term) (mem : ri_Me) : Option ri_H1 := match st with
  | i :: .index k :: r => match mem[k]? with
    | some (.inr (ty, n, d, ov)) => match ri_ix i n, (ri_aty G)[ty]? with
      | some j, some (.object _) => if ri_k (ri_look d ov j) = 2 ∨ ri_k (ri_look d ov j) = 3 then some (1, ri_look d ov j :: r, mem, 0, 0, []) else none
      | _, _ => none
    | _ => none
  | _ => none
def ri_aast (G : ri_Tb) (st : List Jvm.Term) (mem : ri_Me) : Option ri_H1 := match st with
  | .index kv :: i :: .index k :: r => match mem[k]?, mem[kv]? with
    | some (.inr (ty, n, d, ov)), some (.inl (ci, _)) => match ri_ix i n, (ri_cls G)[ci]? with
      | some j, some rr => if (ri_aty G)[ty]? = some (.object rr.1) then some (1, r, mem.set k (.inr (ty, n, d, ri_put d ov j (.index kv))), 0, 0, []) else none
      | _, _ => none
    | _, _ => none
  | _ => none
def ri_alen (G : ri_Tb) (st : List Jvm.Term) (mem : ri_Me) : Option ri_H1 := match st with
  | .index k :: r => match mem[k]? with
    | some (.inr (ty, n, _, _)) => match (ri_aty G)[ty]? with
      | some _ => some (1, ri_ci (Int32.ofNat n) :: r, mem, 0, 0, [])
      | none => none
    | _ => none
  | _ => none
def ri_newo (G : ri_Tb) (M : ri_Mt) (idx : Nat) (st : List Jvm.Term) (mem : ri_Me) : Option ri_H1 := match ri_cp G M idx with
  | some (4, ci, _, _) => match (ri_cls G)[ci]?, (ri_fts G)[ci]? with
    | some (_, _, N), some tys => some (3, .index mem.length :: st, mem ++ [.inl (ci, tys.map ri_dft)], 1, N, [])
    | _, _ => none
  | _ => none
def ri_isI : FieldType → Bool
  | .int => true | .long => true
  | .object _ => true
  | _ => false
def ri_newr (G : ri_Tb) (ty : FieldType) (len : Nat) (st : List Jvm.Term) (mem : ri_Me) : Option ri_H1 := match st, (ri_aty G).findIdx? (fun z => z == ty) with
  | .int v :: r, some a => if ri_isI ty = true ∧ ¬ v < 0 ∧ v.toNatClampNeg ≤ 65536 then some (len, .index mem.length :: r, mem ++ [.inr (a, v.toNatClampNeg, ri_dft ty, [])], 1, v.toNatClampNeg, []) else none
  | _, _ => none
def ri_ldc (G : ri_Tb) (M : ri_Mt) (idx : Nat) (st : List Jvm.Term) (mem : ri_Me) : Option ri_H1 := match ri_cp G M idx with
  | some (8, a, b, _) => some (2, ri_ci (Int32.ofNat a - Int32.ofNat b) :: st, mem, 0, 0, [])
  | some (9, _, _, _) => some (2, .string (ri_own M) idx :: st, mem, 0, 0, [])
  | _ => none
def ri_ldcw (G : ri_Tb) (M : ri_Mt) (idx : Nat) (st : List Jvm.Term) (mem : ri_Me) : Option ri_H1 := match ri_cp G M idx with
  | some (9, _, _, _) => some (3, .string (ri_own M) idx :: st, mem, 0, 0, [])
  | _ => none
def ri_ldc2 (G : ri_Tb) (M : ri_Mt) (idx : Nat) (st : List Jvm.Term) (mem : ri_Me) : Option ri_H1 := match ri_cp G M idx with
  | some (14, a, b, _) => some (3, ri_cl (Int64.ofNat a - Int64.ofNat b) :: st, mem, 0, 0, [])
  | _ => none
/-- a whole row of ints copied over another of its length -/
def ri_acpy (G : ri_Tb) (st : List Jvm.Term) (mem : ri_Me) : Option ri_H1 := match st with
  | .int n :: .int dp :: .index k1 :: .int sp :: .index k0 :: r => match mem[k0]?, mem[k1]? with
    | some (.inr (t0, n0, d0, o0)), some (.inr (t1, n1, _, _)) => if (ri_aty G)[t0]? = some .int ∧ t1 = t0 ∧ n0 = n1 ∧ sp = 0 ∧ dp = 0 ∧ ¬ n < 0 ∧ n.toNatClampNeg = n0 ∧ r.length ≤ 4 then some (3, r, mem.set k1 (.inr (t0, n0, d0, o0)), 0, 0, []) else none
    | _, _ => none
  | _ => none
/-- the script of the law: six ints, at the place of the text "" 0 -/
def ri_lw (M : ri_Mt) : Bool := ri_pn M == 10
def ri_sld (M : ri_Mt) (st : List Jvm.Term) (mem : ri_Me) : Option ri_H1 := match st with
  | i :: .string c k :: r => match ri_ix i 6 with
    | some j => if ri_lw M = true ∧ c = "" ∧ k = 0 then some (1, .arg j :: r, mem, 0, 0, []) else none
    | none => none
  | _ => none
def ri_slen (M : ri_Mt) (st : List Jvm.Term) (mem : ri_Me) : Option ri_H1 := match st with
  | .string c k :: r => if ri_lw M = true ∧ c = "" ∧ k = 0 then some (1, .int 6 :: r, mem, 0, 0, []) else none
  | _ => none
def ri_typeOf : ArrayType → FieldType := newarray.typeOf
def ri_heap (G : ri_Tb) (M : ri_Mt) (cs : List ri_Cd) (i : Instr) (st : List Jvm.Term) (mem : ri_Me) : Option ri_H1 := match i with
  | .getfield idx => ri_getf G M idx st mem
  | .putfield idx => ri_putf G M idx st mem
  | .iaload => match ri_sld M st mem with
    | some x => some x
    | none => ri_iald G cs st mem
  | .iastore => ri_iast G st mem
  | .laload => ri_lald G st mem
  | .lastore => ri_last G st mem
  | .ldc2_w idx => ri_ldc2 G M idx st mem
  | .aaload => ri_aald G st mem
  | .aastore => ri_aast G st mem
  | .arraylength => match ri_slen M st mem with
    | some x => some x
    | none => ri_alen G st mem
  | .new idx => ri_newo G M idx st mem
  | .newarray t => ri_newr G (ri_typeOf t) 2 st mem
  | .anewarray idx => match ri_cp G M (idx + 100000) with
    | some (6, a, _, _) => match (ri_aty G)[a]? with
      | some ty => ri_newr G ty 3 st mem
      | none => none
    | _ => none
  | .ldc idx => ri_ldc G M idx st mem
  | .ldc_w idx => ri_ldcw G M idx st mem
  | .invokestatic idx => match ri_cp G M idx with
    | some (12, _, _, _) => ri_acpy G st mem
    | _ => none
  | _ => none
end RIT
end
section
/-! an exception thrown, its constructor calling its upper one by a link of any number; rows of EXCEPTIONS.to-paste, turned to that -/
section RIXC
def ri_ownX (own : String) (ic : Nat) (X : String) (ix : Nat) (rx : ByteArray) (Y : String) (names : List String) : List Cond :=
  Bundle.throwableAtoms ++ Bundle.throwableSAtoms ++ (Bundle.passSAtoms X Y ix rx ++ Bundle.chainSAtoms Y names) ++
  [.methodLink own ic (Bundle.initS X), .instantiable X 6, .castable X X, .selects X Bundle.tFill0 Bundle.tFill0, .selects X Bundle.tFill Bundle.tFill,
   .lays X Bundle.tN "cause" "Ljava/lang/Throwable;", .lays X Bundle.tN "stackTrace" Bundle.steD, .lays X Bundle.tN "suppressedExceptions" Bundle.listD, .lays X Bundle.tN "detailMessage" "Ljava/lang/String;",
   .isRef (.static Bundle.tN "UNASSIGNED_STACK" Bundle.steD), .isRef (.static Bundle.tN "SUPPRESSED_SENTINEL" Bundle.listD),
   .fieldLink Bundle.tN 198 Bundle.tN "backtrace" "Ljava/lang/Object;", .lays Bundle.tN Bundle.tN "backtrace" "Ljava/lang/Object;", .lays X Bundle.tN "backtrace" "Ljava/lang/Object;"]
def ri_atX (own : String) (ic : Nat) (X : String) (ix : Nat) (rx : ByteArray) (Y : String) (names : List String) : List Cond := (ri_ownX own ic X ix rx Y names).filter vx_no
theorem ri_chainX {args : Array Value} {s : State} {pl : Platform} (hpl : pl.magicAccessors = ({} : Platform).magicAccessors) {top : MethodId} (htop : s.methodNamed? (Bundle.initS Bundle.tN) = some top)
    {ix : Nat} {rx : ByteArray} (x0 : decode rx 0 = .ok (.aload_n 0, 1)) (x1 : decode rx 1 = .ok (.aload_n 1, 1)) (x2 : decode rx 2 = .ok (.invokespecial ix, 3)) (x5 : decode rx 5 = .ok (.return_, 1))
    {X Y : String} {names : List String} (hX : Bundle.fit X = true) (hY : Bundle.fit Y = true) (hn : ∀ n ∈ names, Bundle.fit n = true) (h : ∀ c ∈ Bundle.passSAtoms X Y ix rx ++ Bundle.chainSAtoms Y names, c.before args s = true) :
    ∃ (P1 : PassC) (Ps : List PassC), Ps.length = names.length + 1 ∧ P1.LinksS pl s ∧ (∀ P, P ∈ Ps → P.LinksS pl s) ∧ s.methodNamed? (Bundle.initS X) = some P1.m ∧
        P1.sup = firstOf top (Ps.map (·.toPassT)) ∧ PassesOn top (Ps.map (·.toPassT)) := by
  obtain ⟨P, LP, hm, hs⟩ := PassC.ofS_atoms (args := args) (s := s) hpl (X := X) (Y := Y) (Bundle.fit_spec hX).1 (Bundle.fit_spec hY).2 x0 x1 x2 x5 (fun c hc => h c (List.mem_append_left _ hc))
  obtain ⟨P', Ps, hlen, L', hL, hm', hsup, hpass⟩ := Bundle.chainS (args := args) hpl htop names Y hY hn (fun c hc => h c (List.mem_append_right _ hc))
  refine ⟨P, P' :: Ps, congrArg (· + 1) hlen, LP, fun Q hQ => ?_, hm, Option.some.inj (hs.symm.trans hm'), hsup, hpass⟩
  rcases List.mem_cons.mp hQ with rfl | hQ
  · exact L'
  · exact hL Q hQ
section RIXC1
variable {p : Program} {l : Launch} {e : Env} {R : Room} {s : State} {m₀ : MethodId} {args : Array Value} {below : List Frame} {meth : Method} {c : Code} {W : State} {locs : List Loc} {cells slots : Nat}
set_option maxHeartbeats 1000000 in
theorem ri_ctorMadeX (X : Stand p l e R s m₀ args below meth c W locs cells slots) (hexec : p.tables.exec = Jvm.exec) (htr : e.platform.stackTraces = false) {own cls Y0 : String} {names : List String} {ic ix : Nat} {rx : ByteArray} (x0 : decode rx 0 = .ok (.aload_n 0, 1)) (x1 : decode rx 1 = .ok (.aload_n 1, 1)) (x2 : decode rx 2 = .ok (.invokespecial ix, 3)) (x5 : decode rx 5 = .ok (.return_, 1))
    (hown : s.vm.findClass own = some m₀.cls) (hcls : Bundle.fit cls = true) (hY0 : Bundle.fit Y0 = true) (hnames : ∀ n ∈ names, Bundle.fit n = true)
    (h : ∀ a ∈ ri_ownX own ic cls ix rx Y0 names, a.before args s = true)
    (hlocs : ∀ x ∈ locs, ∀ cell, s.heap[x.base]? = some cell → cell.vm.isStatics = false)
    {a : Addr} {cX : ClassId} {kX : Class} (hfoundX : s.vm.findClass cls = some cX) (hkX : s.vm.classes[cX]? = some kX) (hcell : W.heap[a]? = some (freshCell cX kX)) (hnew : s.heap.size ≤ a)
    {msg : Value} (hmsg : msg.isRef = true)
    {g : JFrame} (hg : g.method = m₀) (hsize : g.locals.size = c.maxLocals) {rest : List Value} (hstack : g.stack = msg :: .ref a :: .ref a :: rest)
    (hd6 : decode c.code g.pc = .ok (.invokespecial ic, 3))
    (hRframes : names.length + 4 < R.frames) (hRlocals : 2 * g.monitorRoom + ((Value.ref a :: rest).map fun v => v.category).sum + (13 * (names.length + 2) + 42) ≤ R.locals) :
    ∃ (V : State) (ce : Cell) (L : List Loc), Stand p l e R s m₀ args below meth c (V.setCell a ce) (locs ++ L) cells slots ∧ (∀ y ∈ L, y.base = a) ∧ a < V.heap.size ∧ ce.cls = cX ∧ ce.vm = .none ∧
      ∀ target, Steps p.tables e below ((V.setCell a ce).setTop { g with stack := .ref a :: rest, pc := g.pc + 3 }) target → Steps p.tables e below (W.setTop g) target := by
  have howns : e.platform.frameOwnsMonitors = true := by rw [X.admits.platform]
  have hfin : e.platform.finalization = false := by rw [X.admits.platform]
  have hpl : e.platform.magicAccessors = ({} : Platform).magicAccessors := by rw [X.admits.platform]
  have a' : ∀ x, x ∈ ri_ownX own ic cls ix rx Y0 names → x.holds args s none s [] = true := fun x hx => h x hx
  obtain ⟨T, Z0, L, -, Y⟩ := ThrowableC.of_atoms (args := args) howns hfin hpl (fun x hx => h x (by simp [ri_ownX, hx]))
  obtain ⟨Z, M, LZ, LM, hnZ⟩ := Init0T.ofS_atoms (args := args) hpl L Y (fun x hx => h x (by simp [ri_ownX, hx]))
  obtain ⟨P1, Ps, hlen, L1, hL, hP1m, hlink1, hlink⟩ := ri_chainX (args := args) hpl hnZ x0 x1 x2 x5 hcls hY0 hnames (fun x hx => h x (List.mem_append_left _ (List.mem_append_right _ hx)))
  have hfound : s.vm.findClass cls = some P1.m.cls := findClass_of_methodNamed hP1m
  cases Option.some.inj (hfoundX.symm.trans hfound)
  obtain ⟨c1, kX', hc1, hk, hord, -, -, hn6⟩ := Cond.instantiable_spec (a' (.instantiable cls 6) (by simp [ri_ownX]))
  cases Option.some.inj (hc1.symm.trans hfound)
  cases Option.some.inj (hkX.symm.trans hk)
  have hsel0 : selectMethod e.platform s.vm P1.m.cls T.fill0 = .method T.fill0 := by
    obtain ⟨c2, r2, m2, q1, q2, q3, q4, -⟩ := Cond.selects_spec (a' (.selects cls Bundle.tFill0 Bundle.tFill0) (by simp [ri_ownX]))
    cases Option.some.inj (q1.symm.trans hfound)
    cases Option.some.inj (q2.symm.trans (State.methodFound?_of_named Y.fill0 (by decide)))
    cases Option.some.inj (q3.symm.trans Y.fill0)
    rw [Launch.admits_selectMethod X.admits]; exact q4
  have hselF : selectMethod e.platform s.vm P1.m.cls T.fill = .method T.fill := by
    obtain ⟨c2, r2, m2, q1, q2, q3, q4, -⟩ := Cond.selects_spec (a' (.selects cls Bundle.tFill Bundle.tFill) (by simp [ri_ownX]))
    cases Option.some.inj (q1.symm.trans hfound)
    cases Option.some.inj (q2.symm.trans (State.methodFound?_of_named Y.fill (by decide)))
    cases Option.some.inj (q3.symm.trans Y.fill)
    rw [Launch.admits_selectMethod X.admits]; exact q4
  obtain ⟨cellS0, hcS0, hiss⟩ := Y.statics
  obtain ⟨u0, hu0⟩ := Cond.staticRefV Y.unassigned L.unassignedStatic L.statics hcS0 hiss (a' (.isRef (.static Bundle.tN "UNASSIGNED_STACK" Bundle.steD)) (by simp [ri_ownX]))
  obtain ⟨sen, hsen⟩ := Cond.staticRefV Y.sentinel L.sentinelStatic L.statics hcS0 hiss (a' (.isRef (.static Bundle.tN "SUPPRESSED_SENTINEL" Bundle.listD)) (by simp [ri_ownX]))
  obtain ⟨ci198, i198, fB, hk198, hg198, ha198, hsB, -, hnB, htB, hffB⟩ := Cond.ownField (t := .object "java/lang/Object") Y.found L.cls (by decide +kernel) (a' (.fieldLink Bundle.tN 198 Bundle.tN "backtrace" "Ljava/lang/Object;") (by simp [ri_ownX])) (a' (.lays Bundle.tN Bundle.tN "backtrace" "Ljava/lang/Object;") (by simp [ri_ownX])) e.platform hpl
  obtain ⟨cellS, hcS', heS, -, hkeep⟩ := X.same.2.2.2.2.2 T.aS cellS0 hcS0
  have hcellS : W.heap[T.aS]? = some cellS := hcS'
  have hout' : ∀ i, (⟨T.aS, i⟩ : Loc) ∉ locs := fun i hmem => by
    have := hlocs _ hmem cellS0 hcS0
    rw [hiss] at this; cases this
  have hknownS : cellS.vm ≠ .unknown := by
    rw [heS]; intro hu
    rw [show cellS0.vm = .unknown from hu] at hiss
    cases hiss
  have hneS : T.aS ≠ a := Nat.ne_of_lt (Nat.lt_of_lt_of_le (Array.getElem?_eq_some_iff.mp hcS0).1 hnew)
  obtain ⟨iM, hffM⟩ := Y.msg
  obtain ⟨tyC, dC, hdC, hdnC⟩ := Cond.laysAt hfound hk Y.cause (a' (.lays cls Bundle.tN "cause" "Ljava/lang/Throwable;") (by simp [ri_ownX]))
  obtain ⟨tyS, dS, hdS, hdnS⟩ := Cond.laysAt hfound hk Y.stack (a' (.lays cls Bundle.tN "stackTrace" Bundle.steD) (by simp [ri_ownX]))
  obtain ⟨tyP, dP, hdP, hdnP⟩ := Cond.laysAt hfound hk Y.supp (a' (.lays cls Bundle.tN "suppressedExceptions" Bundle.listD) (by simp [ri_ownX]))
  obtain ⟨tyM, dM, hdM, hdnM⟩ := Cond.laysAt hfound hk hffM (a' (.lays cls Bundle.tN "detailMessage" "Ljava/lang/String;") (by simp [ri_ownX]))
  obtain ⟨tyB, dB, hdB, hdnB⟩ := Cond.laysAt hfound hk hffB (a' (.lays cls Bundle.tN "backtrace" "Ljava/lang/Object;") (by simp [ri_ownX]))
  have bC := Cond.laysApart hdB hdC hdnB hdnC (by rw [hnB, Y.causeName]; decide)
  have bS := Cond.laysApart hdB hdS hdnB hdnS (by rw [hnB, Y.stackName]; decide)
  have bP := Cond.laysApart hdB hdP hdnB hdnP (by rw [hnB, Y.suppName]; decide)
  have hskip : SkipFacts T e.platform s (fun u => u) u0 ((preparedCellV T.toThrowableT (freshCell P1.m.cls kX) a u0 sen).withEntry W.cur) :=
    ⟨{ ci198 := ci198, i198 := i198, fBack := fB }, ⟨hk198, hg198, ha198, hsB⟩, by
      have := fresh_default (c := P1.m.cls) tyB
      rw [htB] at this
      simpa [preparedCellV, Cell.setSlot, Cell.withEntry, Array.getElem?_setIfInBounds, bC, bS, bP, bC.symm, bS.symm, bP.symm, defaultValue] using this, fun _ _ => rfl⟩
  obtain ⟨tm, methC, cdC, kC, vm₁, hnC, -, -, -, -, -, -, -, hW₁, st1⟩ := Steps.initColdS (tb := p.tables) (e := e) (below := below) (s := s) (U := W) X.here hexec X.warmed hpl hown (t := Bundle.initS cls) rfl rfl (Bundle.fit_spec hcls).2
    (a' (.methodLink own ic (Bundle.initS cls)) (by simp [ri_ownX])) (h (.instanceMethod (Bundle.initS cls)) (by simp [ri_ownX, Bundle.passSAtoms])) (bytes := rx) (maxL := 2) (h (.code (Bundle.initS cls) rx 2 none) (by simp [ri_ownX, Bundle.passSAtoms]))
    (f := g) hg (a := a) (msg := msg) (rest := .ref a :: rest) hstack hd6
  cases Option.some.inj (hnC.symm.trans hP1m)
  have X₁ := X.noted hW₁
  obtain ⟨vm₂, X₂, st2⟩ := X₁.ctorMessageOffV hexec (g := { g with stack := .ref a :: rest }) hg hsize T L Z LZ M LM (P1 :: Ps)
    (fun P hP => by rcases List.mem_cons.mp hP with rfl | hP; exact L1; exact hL P hP) ⟨hlink1, hlink⟩ (u0 := u0) (sen := sen) (self := a) hmsg (cell := freshCell P1.m.cls kX) (cellS := cellS)
    hcell (fun _ => by simp) (by simp) rfl rfl hsel0 hselF hcellS hneS hknownS (by rw [hkeep _ (hout' _)]; exact hu0) (by rw [hkeep _ (hout' _)]; exact hsen)
    (Takes.of_laid hk hord tyC (by rw [Y.causeType]; rfl)) (Takes.of_laid hk hord tyS (by rw [Y.stackType]; exact fits_refV_array _ u0)) (Takes.of_laid hk hord tyP (by rw [Y.suppType]; exact fits_refV_object _ sen))
    (Takes.of_laid hk hord tyM (by rw [Y.msgType]; exact fits_refV_object _ ⟨msg, hmsg⟩)) Y.objLocals hskip htr [] hd6
    (by simp only [List.length_cons, hlen]; omega) (by simp only [List.length_cons, hlen]; exact hRlocals)
  have hlt : a < ((W.setVm vm₁).setVm vm₂).heap.size := (Array.getElem?_eq_some_iff.mp hcell).1
  refine ⟨(W.setVm vm₁).setVm vm₂, _, _, X₂, fun y hy => ?_, hlt, rfl, rfl, fun target hwalk => st1 _ (fun acts => ?_)⟩
  · simp only [List.mem_cons, List.not_mem_nil, or_false] at hy
    rcases hy with rfl | rfl | rfl | rfl | rfl <;> rfl
  · rw [doInvoke_state]
    exact st2 _ hwalk
end RIXC1
section RIXC2
variable {p : Program} {l : Launch} {e : Env} {R : Room} {s : State} {m : MethodId} {args : Array Value} {below : List Frame} {meth : Method} {c : Code} {H : Heap} {locs : List Loc} {cells slots : Nat}
variable {ls : Array Slot} {rest : List Value} {Qc : Array Value → State → Outcome → State → Prop} {XC : String → State → State → Prop} {free : Addr → Prop}
theorem ri_throwX {cc : ByteArray} {pc : Nat} (hexec : p.tables.exec = Jvm.exec) (hb : c.code = cc) (hl : l.stackTraces = false) {own cls text Y0 : String} {names : List String} {ik is ic ix mc ms sa : Nat} {rx : ByteArray} {A : Nat → Prop}
    (hown : s.vm.findClass own = some m.cls) (hcls : Bundle.fit cls = true) (hY0 : Bundle.fit Y0 = true) (hnames : ∀ n ∈ names, Bundle.fit n = true) (x0 : decode rx 0 = .ok (.aload_n 0, 1)) (x1 : decode rx 1 = .ok (.aload_n 1, 1)) (x2 : decode rx 2 = .ok (.invokespecial ix, 3)) (x5 : decode rx 5 = .ok (.return_, 1))
    (hk : (Cond.classLink own ik cls).before args s = true) (hini : (Cond.initialized cls).before args s = true) (hstr : vk_R own is text sa s) (hat : ∀ w ∈ ri_atX own ic cls ix rx Y0 names, w.before args s = true)
    (hgood : ∀ w ∈ Cond.classLink own ik cls :: Cond.initialized cls :: ri_atX own ic cls ix rx Y0 names, vx_ot w = true)
    (hU : vx_Zq Bundle.tN "UNASSIGNED_STACK" Bundle.steD A s s.heap) (hN : vx_Zq Bundle.tN "SUPPRESSED_SENTINEL" Bundle.listD A s s.heap) (hS : va_S A s.heap H locs) (hsize : ls.size = c.maxLocals)
    (d0 : decode cc pc = .ok (.new ik, 3)) (d3 : decode cc (pc + 3) = .ok (.dup, 1)) (d4 : decode cc (pc + 4) = .ok (.ldc is, 2)) (d6 : decode cc (pc + 6) = .ok (.invokespecial ic, 3)) (d9 : decode cc (pc + 9) = .ok (.athrow, 1))
    (hout : ∀ x ∈ c.exceptionTable.toList, covers x (pc + 9) = false)
    (hRframes : names.length + 4 < R.frames) (hRlocals : (rest.map fun v => v.category).sum + (13 * (names.length + 2) + 43) ≤ R.locals) (hRcells : cells + 1 ≤ R.cells) (hRslots : slots + 6 ≤ R.slots) (hlocks : meth.locks = false)
    (hx : ∀ t : State, s.vm.Alike t.vm → H.size ≤ t.heap.size → (∀ q : Nat, q < H.size → t.heap[q]? = H[q]?) → XC cls s t)
    (hf : ∀ z ∈ locs, free z.base) (hc : cells + 1 ≤ mc) (hs : slots + 6 ≤ ms) :
    W p l e R s m args below meth c H locs cells slots (vx_MQ below Qc XC args s mc ms free) (F0 m pc ls rest) := by
  intro T hT X
  have htr : e.platform.stackTraces = false := (show e.platform.stackTraces = l.stackTraces by rw [X.admits.platform]).trans hl
  have Y := vx_rebase X (R' := { frames := R.frames, locals := R.locals, cells := 1, slots := 6 }) (Nat.le_refl _) (Nat.le_refl _) hRcells hRslots
  obtain ⟨s', hA⟩ : ∃ z, z = (T.setVm s.vm).setFrames (.invoking m args :: below) := ⟨_, rfl⟩
  rw [← hA] at Y
  have hvm : s'.vm = s.vm := by rw [hA]; rfl
  have hhp : s'.heap = H := by rw [hA]; exact hT
  have hW0 : s.WarmedH s'.vm := by rw [hvm]; exact State.WarmedH.refl s
  have hat' : ∀ w ∈ ri_atX own ic cls ix rx Y0 names, w.before args s' = true := fun w hw => vx_ot_at hW0 hvm.symm (hgood w (List.mem_cons_of_mem _ (List.mem_cons_of_mem _ hw))) (hat w hw)
  have hk' : (Cond.classLink own ik cls).before args s' = true := vx_ot_at hW0 hvm.symm (hgood _ List.mem_cons_self) hk
  have hini' : (Cond.initialized cls).before args s' = true := vx_ot_at hW0 hvm.symm (hgood _ (List.mem_cons_of_mem _ List.mem_cons_self)) hini
  have hU' : vx_Zq Bundle.tN "UNASSIGNED_STACK" Bundle.steD A s' s'.heap := by rw [hhp]; exact vx_Zq.moved hW0.alike (hU.kept hS.2.1)
  have hN' : vx_Zq Bundle.tN "SUPPRESSED_SENTINEL" Bundle.listD A s' s'.heap := by rw [hhp]; exact vx_Zq.moved hW0.alike (hN.kept hS.2.1)
  have h : ∀ w ∈ ri_ownX own ic cls ix rx Y0 names, w.before args s' = true := vx_own hat' (vx_isRefq hU'.1) (vx_isRefq hN'.1) hU'.2.word hN'.2.word
  have hown' : s'.vm.findClass own = some m.cls := by rw [hvm]; exact hown
  have hins : (Cond.instantiable cls 6).before args s' = true := h _ (by simp [ri_ownX])
  obtain ⟨vm₁, cX, kX, hfX, hkX, -, -, X₁, st1⟩ := Y.newCold hexec (own := own) (C := cls) (index := ik) (n := 6) hown' hk' hins hini'
    (g := F0 m pc ls rest) rfl (by rw [hb]; exact d0) (Nat.le_refl _) (Nat.le_refl _)
  generalize hT1 : (T.setVm vm₁).pushCell { cls := cX, slots := kX.instanceTypes.map defaultValue, vm := .none } = T1 at X₁ st1
  have hcat : (Value.ref T.heap.size).category = 1 := rfl
  have hcellA : T1.heap[T.heap.size]? = some (freshCell cX kX) := by rw [← hT1]; exact State.heap_pushCell_size _ _
  have d3' : decode c.code (pc + 3) = .ok (.dup, 1) := by rw [hb]; exact d3
  have d4' : decode c.code (pc + 4) = .ok (.ldc is, 2) := by rw [hb]; exact d4
  have hstr' : vk_R own is text sa s' := vk_R.warm hW0 hstr
  obtain ⟨V, ce, L9, Z, hL, hlt, hcl9, hvm9, st⟩ := ri_ctorMadeX X₁ hexec htr (own := own) (cls := cls) (names := names) (ic := ic) x0 x1 x2 x5 hown' hcls hY0 hnames h (fun x hx => nomatch hx) hfX hkX hcellA (by rw [hhp, hT]; exact Nat.le_refl _) (msg := .ref sa) rfl
    (g := { method := m, pc := pc + 6, locals := ls, stack := .ref sa :: .ref T.heap.size :: .ref T.heap.size :: rest, locked := none }) rfl hsize (rest := rest) rfl
    (by rw [hb]; exact d6) hRframes (by simp only [List.map_cons, List.sum_cons, hcat]; omega)
  have Z0 := Stand.forget (locs := []) Z (fun y hy => by rw [hL y hy, hhp, hT]; exact Nat.le_refl _)
  obtain ⟨hwalk, hrun, hend, hW, hsame⟩ := Z0.athrowLeaves hexec (g := { method := m, pc := pc + 6 + 3, locals := ls, stack := .ref T.heap.size :: rest, locked := none }) rfl rfl rfl hout (a := T.heap.size) (rest := rest) rfl (by rw [hb]; exact d9) hlocks
  have hsteps := st _ hwalk
  generalize hU9 : (V.setCell T.heap.size ce).setFrames (.throwing T.heap.size :: below) = U at hsteps hrun hend hW hsame
  have hce : U.heap[T.heap.size]? = some ce := by rw [← hU9]; exact heapAt_setCell_self (s := V) ce hlt
  obtain ⟨f1, f2⟩ := vx_frame hsame
  rw [hhp] at f1 f2
  have hWs : s.WarmedH U.vm := State.WarmedH.trans hW0 hW
  have hcl : s.vm.findClass cls = some ce.cls := by
    have h9 := hfX
    rw [hvm, ← hcl9] at h9
    exact h9
  have hall : s.sameButNew ({ U with vm := s.vm } : State) locs mc ms := by
    subst hA
    obtain ⟨e1, e2⟩ := hsame
    rw [State.setFrames_setFrames] at e1
    have h2 : (T.setVm s.vm).sameButNew ({ U with vm := s.vm } : State) [] (0 + 1) (0 + 6) := ⟨e1, e2⟩
    have h3 := X.same.trans h2
    rw [List.append_nil] at h3
    exact h3.mono hc hs
  refine ⟨U, ?_, .threw T.heap.size, hrun, hend, Or.inr ⟨T.heap.size, rfl, cls, ce, locs, hx U hWs.alike f1 (fun q hq => f2 q hq (fun z hz => nomatch hz)), hce, hvm9, hcl, hWs, hall, hf⟩⟩
  refine st1 _ ?_
  show Steps p.tables e below (T1.setTop { method := m, pc := pc + 3, locals := ls, stack := .ref T.heap.size :: rest, locked := none }) _
  jvm_step X₁.here [X₁.here.top, hexec, d3', Value.category]
  exact X₁.ldcString hexec (own := own) (text := text) (index := is) (a := sa) hown' hstr'.1 hstr'.2
    (g := { method := m, pc := pc + 4, locals := ls, stack := .ref T.heap.size :: .ref T.heap.size :: rest, locked := none }) rfl d4' _ hsteps
theorem ri_throwXW {cc : ByteArray} {pc : Nat} (hexec : p.tables.exec = Jvm.exec) (hb : c.code = cc) (hl : l.stackTraces = false) {own cls text Y0 : String} {names : List String} {ik is ic ix mc ms sa : Nat} {rx : ByteArray} {A : Nat → Prop}
    (hown : s.vm.findClass own = some m.cls) (hcls : Bundle.fit cls = true) (hY0 : Bundle.fit Y0 = true) (hnames : ∀ n ∈ names, Bundle.fit n = true) (x0 : decode rx 0 = .ok (.aload_n 0, 1)) (x1 : decode rx 1 = .ok (.aload_n 1, 1)) (x2 : decode rx 2 = .ok (.invokespecial ix, 3)) (x5 : decode rx 5 = .ok (.return_, 1))
    (hk : (Cond.classLink own ik cls).before args s = true) (hini : (Cond.initialized cls).before args s = true) (hstr : vk_R own is text sa s) (hat : ∀ w ∈ ri_atX own ic cls ix rx Y0 names, w.before args s = true)
    (hgood : ∀ w ∈ Cond.classLink own ik cls :: Cond.initialized cls :: ri_atX own ic cls ix rx Y0 names, vx_ot w = true)
    (hU : vx_Zq Bundle.tN "UNASSIGNED_STACK" Bundle.steD A s s.heap) (hN : vx_Zq Bundle.tN "SUPPRESSED_SENTINEL" Bundle.listD A s s.heap) (hS : va_S A s.heap H locs) (hsize : ls.size = c.maxLocals)
    (d0 : decode cc pc = .ok (.new ik, 3)) (d3 : decode cc (pc + 3) = .ok (.dup, 1)) (d4 : decode cc (pc + 4) = .ok (.ldc_w is, 3)) (d7 : decode cc (pc + 7) = .ok (.invokespecial ic, 3)) (d10 : decode cc (pc + 10) = .ok (.athrow, 1))
    (hout : ∀ x ∈ c.exceptionTable.toList, covers x (pc + 10) = false)
    (hRframes : names.length + 4 < R.frames) (hRlocals : (rest.map fun v => v.category).sum + (13 * (names.length + 2) + 43) ≤ R.locals) (hRcells : cells + 1 ≤ R.cells) (hRslots : slots + 6 ≤ R.slots) (hlocks : meth.locks = false)
    (hx : ∀ t : State, s.vm.Alike t.vm → H.size ≤ t.heap.size → (∀ q : Nat, q < H.size → t.heap[q]? = H[q]?) → XC cls s t)
    (hf : ∀ z ∈ locs, free z.base) (hc : cells + 1 ≤ mc) (hs : slots + 6 ≤ ms) :
    W p l e R s m args below meth c H locs cells slots (vx_MQ below Qc XC args s mc ms free) (F0 m pc ls rest) := by
  intro T hT X
  have htr : e.platform.stackTraces = false := (show e.platform.stackTraces = l.stackTraces by rw [X.admits.platform]).trans hl
  have Y := vx_rebase X (R' := { frames := R.frames, locals := R.locals, cells := 1, slots := 6 }) (Nat.le_refl _) (Nat.le_refl _) hRcells hRslots
  obtain ⟨s', hA⟩ : ∃ z, z = (T.setVm s.vm).setFrames (.invoking m args :: below) := ⟨_, rfl⟩
  rw [← hA] at Y
  have hvm : s'.vm = s.vm := by rw [hA]; rfl
  have hhp : s'.heap = H := by rw [hA]; exact hT
  have hW0 : s.WarmedH s'.vm := by rw [hvm]; exact State.WarmedH.refl s
  have hat' : ∀ w ∈ ri_atX own ic cls ix rx Y0 names, w.before args s' = true := fun w hw => vx_ot_at hW0 hvm.symm (hgood w (List.mem_cons_of_mem _ (List.mem_cons_of_mem _ hw))) (hat w hw)
  have hk' : (Cond.classLink own ik cls).before args s' = true := vx_ot_at hW0 hvm.symm (hgood _ List.mem_cons_self) hk
  have hini' : (Cond.initialized cls).before args s' = true := vx_ot_at hW0 hvm.symm (hgood _ (List.mem_cons_of_mem _ List.mem_cons_self)) hini
  have hU' : vx_Zq Bundle.tN "UNASSIGNED_STACK" Bundle.steD A s' s'.heap := by rw [hhp]; exact vx_Zq.moved hW0.alike (hU.kept hS.2.1)
  have hN' : vx_Zq Bundle.tN "SUPPRESSED_SENTINEL" Bundle.listD A s' s'.heap := by rw [hhp]; exact vx_Zq.moved hW0.alike (hN.kept hS.2.1)
  have h : ∀ w ∈ ri_ownX own ic cls ix rx Y0 names, w.before args s' = true := vx_own hat' (vx_isRefq hU'.1) (vx_isRefq hN'.1) hU'.2.word hN'.2.word
  have hown' : s'.vm.findClass own = some m.cls := by rw [hvm]; exact hown
  have hins : (Cond.instantiable cls 6).before args s' = true := h _ (by simp [ri_ownX])
  obtain ⟨vm₁, cX, kX, hfX, hkX, -, -, X₁, st1⟩ := Y.newCold hexec (own := own) (C := cls) (index := ik) (n := 6) hown' hk' hins hini'
    (g := F0 m pc ls rest) rfl (by rw [hb]; exact d0) (Nat.le_refl _) (Nat.le_refl _)
  generalize hT1 : (T.setVm vm₁).pushCell { cls := cX, slots := kX.instanceTypes.map defaultValue, vm := .none } = T1 at X₁ st1
  have hcat : (Value.ref T.heap.size).category = 1 := rfl
  have hcellA : T1.heap[T.heap.size]? = some (freshCell cX kX) := by rw [← hT1]; exact State.heap_pushCell_size _ _
  have d3' : decode c.code (pc + 3) = .ok (.dup, 1) := by rw [hb]; exact d3
  have d4' : decode c.code (pc + 4) = .ok (.ldc_w is, 3) := by rw [hb]; exact d4
  have hstr' : vk_R own is text sa s' := vk_R.warm hW0 hstr
  obtain ⟨V, ce, L9, Z, hL, hlt, hcl9, hvm9, st⟩ := ri_ctorMadeX X₁ hexec htr (own := own) (cls := cls) (names := names) (ic := ic) x0 x1 x2 x5 hown' hcls hY0 hnames h (fun x hx => nomatch hx) hfX hkX hcellA (by rw [hhp, hT]; exact Nat.le_refl _) (msg := .ref sa) rfl
    (g := { method := m, pc := pc + 7, locals := ls, stack := .ref sa :: .ref T.heap.size :: .ref T.heap.size :: rest, locked := none }) rfl hsize (rest := rest) rfl
    (by rw [hb]; exact d7) hRframes (by simp only [List.map_cons, List.sum_cons, hcat]; omega)
  have Z0 := Stand.forget (locs := []) Z (fun y hy => by rw [hL y hy, hhp, hT]; exact Nat.le_refl _)
  obtain ⟨hwalk, hrun, hend, hW, hsame⟩ := Z0.athrowLeaves hexec (g := { method := m, pc := pc + 7 + 3, locals := ls, stack := .ref T.heap.size :: rest, locked := none }) rfl rfl rfl hout (a := T.heap.size) (rest := rest) rfl (by rw [hb]; exact d10) hlocks
  have hsteps := st _ hwalk
  generalize hU9 : (V.setCell T.heap.size ce).setFrames (.throwing T.heap.size :: below) = U at hsteps hrun hend hW hsame
  have hce : U.heap[T.heap.size]? = some ce := by rw [← hU9]; exact heapAt_setCell_self (s := V) ce hlt
  obtain ⟨f1, f2⟩ := vx_frame hsame
  rw [hhp] at f1 f2
  have hWs : s.WarmedH U.vm := State.WarmedH.trans hW0 hW
  have hcl : s.vm.findClass cls = some ce.cls := by
    have h9 := hfX
    rw [hvm, ← hcl9] at h9
    exact h9
  have hall : s.sameButNew ({ U with vm := s.vm } : State) locs mc ms := by
    subst hA
    obtain ⟨e1, e2⟩ := hsame
    rw [State.setFrames_setFrames] at e1
    have h2 : (T.setVm s.vm).sameButNew ({ U with vm := s.vm } : State) [] (0 + 1) (0 + 6) := ⟨e1, e2⟩
    have h3 := X.same.trans h2
    rw [List.append_nil] at h3
    exact h3.mono hc hs
  refine ⟨U, ?_, .threw T.heap.size, hrun, hend, Or.inr ⟨T.heap.size, rfl, cls, ce, locs, hx U hWs.alike f1 (fun q hq => f2 q hq (fun z hz => nomatch hz)), hce, hvm9, hcl, hWs, hall, hf⟩⟩
  refine st1 _ ?_
  show Steps p.tables e below (T1.setTop { method := m, pc := pc + 3, locals := ls, stack := .ref T.heap.size :: rest, locked := none }) _
  jvm_step X₁.here [X₁.here.top, hexec, d3', Value.category]
  exact X₁.ldcStringW hexec (own := own) (text := text) (index := is) (a := sa) hown' hstr'.1 hstr'.2
    (g := { method := m, pc := pc + 4, locals := ls, stack := .ref T.heap.size :: .ref T.heap.size :: rest, locked := none }) rfl d4' _ hsteps
end RIXC2
end RIXC
end
section
/-! RI: the instructions that touch the heap are sound -/
section RIW
def ri_tys (aty : List FieldType) (tyc : Nat → ClassId) : List (ClassId × FieldType) := aty.mapIdx (fun j ty => (tyc j, ty))
theorem ri_tys_get {aty : List FieldType} {tyc : Nat → ClassId} {j : Nat} {ty : FieldType} (h : aty[j]? = some ty) : (ri_tys aty tyc)[j]? = some (tyc j, ty) := by
  unfold ri_tys
  rw [List.getElem?_mapIdx, h]
  rfl
def ri_obs (ρ : Nat → Int32) (o : ri_Ob) : Prop := (∀ q ∈ o.1, ri_sat ρ q) → vp_in (ri_iv ρ o.2.1) o.2.2
/-- a constructor that hands its text on by its link 13 -/
def ri_rx : ByteArray := ⟨#[0x2a, 0x2b, 0xb7, 0x00, 0x0d, 0xb1]⟩
theorem ri_rx0 : decode ri_rx 0 = .ok (.aload_n 0, 1) := by decide +kernel
theorem ri_rx1 : decode ri_rx 1 = .ok (.aload_n 1, 1) := by decide +kernel
theorem ri_rx2 : decode ri_rx 2 = .ok (.invokespecial 13, 3) := by decide +kernel
theorem ri_rx5 : decode ri_rx 5 = .ok (.return_, 1) := by decide +kernel
def ri_link (ALL : List Jvm.Cond) (STR : List (String × Nat × String)) (G : ri_Tb) (own : String) (idx : Nat) (q : ri_Lk) : Prop := match q with
  | (0, a, b, _) => ∃ (C : String) (T : u_T) (N : Nat), (ri_cls G)[a]? = some (C, T, N) ∧ b < N ∧ Jvm.Cond.fieldLink own idx (T b).1 (T b).2.1 (T b).2.2.1 ∈ ALL
  | (1, a, b, tx) => ∃ (C : String) (T : u_T) (N : Nat), (ri_cls G)[a]? = some (C, T, N) ∧ b < N ∧ Jvm.Cond.fieldLinkNest own idx (T b).1 (T b).2.1 (T b).2.2.1 tx ∈ ALL
  | (4, a, _, _) => ∃ (C : String) (T : u_T) (N : Nat), (ri_cls G)[a]? = some (C, T, N) ∧ Jvm.Cond.classLink own idx C ∈ ALL ∧ Jvm.Cond.instantiable C N ∈ ALL ∧ Jvm.Cond.initialized C ∈ ALL
  | (6, a, _, _) => ∃ C, (ri_aty G)[a]? = some (.object C) ∧ Jvm.Cond.classLink own (idx - 100000) C ∈ ALL ∧ Jvm.Cond.arrayOver (.object C) ∈ ALL
  | (8, a, b, _) => Jvm.Cond.constant own idx (Int32.ofNat a - Int32.ofNat b) ∈ ALL
  | (5, _, _, E) => Jvm.Cond.classLink own idx E ∈ ALL ∧ Jvm.Cond.initialized E ∈ ALL ∧ Bundle.fit E = true
  | (9, _, _, tx) => (own, idx, tx) ∈ STR
  | (14, a, b, _) => Jvm.Cond.constantLong own idx (Int64.ofNat a - Int64.ofNat b) ∈ ALL
  | (13, _, _, E) => ∃ names : List String, names.length ≤ 2 ∧ (∀ n ∈ names, Bundle.fit n = true) ∧ ∀ w ∈ vx_atS own idx E names, w ∈ ALL ∧ vx_ot w = true
  | (15, _, _, E) => ∀ w ∈ ri_atX own idx E 13 ri_rx "java/lang/RuntimeException" ["java/lang/Exception"], w ∈ ALL ∧ vx_ot w = true
  | (20, mi, n, _) => ∃ M2, (ri_mts G)[mi]? = some M2 ∧ (parseMethodDescriptor (ri_nm M2).desc).map (fun d => d.parameters.length) = some n ∧ Jvm.Cond.methodLink own idx (ri_nm M2) ∈ ALL ∧ Jvm.Cond.instanceMethod (ri_nm M2) ∈ ALL ∧ Jvm.Cond.selects (ri_nm M2).cls (ri_nm M2) (ri_nm M2) ∈ ALL
  | (21, mi, n, _) => ∃ M2, (ri_mts G)[mi]? = some M2 ∧ (parseMethodDescriptor (ri_nm M2).desc).map (fun d => d.parameters.length) = some n ∧ Jvm.Cond.methodLink own idx (ri_nm M2) ∈ ALL ∧ Jvm.Cond.static (ri_nm M2) ∈ ALL
  | (22, mi, n, _) => ∃ M2, (ri_mts G)[mi]? = some M2 ∧ (parseMethodDescriptor (ri_nm M2).desc).map (fun d => d.parameters.length) = some n ∧ Jvm.Cond.methodLink own idx (ri_nm M2) ∈ ALL ∧ Jvm.Cond.instanceMethod (ri_nm M2) ∈ ALL ∧ (ri_nm M2).name = "<init>" ∧ ri_rt M2 = none
  | (30, mi, n, tx) => ∃ M2, (ri_mts G)[mi]? = some M2 ∧ (parseMethodDescriptor (ri_nm M2).desc).map (fun d => d.parameters.length) = some n ∧ Jvm.Cond.methodLinkNest own idx (ri_nm M2) tx ∈ ALL ∧ Jvm.Cond.instanceMethod (ri_nm M2) ∈ ALL ∧ Jvm.Cond.selects (ri_nm M2).cls (ri_nm M2) (ri_nm M2) ∈ ALL
  | (31, mi, n, tx) => ∃ M2, (ri_mts G)[mi]? = some M2 ∧ (parseMethodDescriptor (ri_nm M2).desc).map (fun d => d.parameters.length) = some n ∧ Jvm.Cond.methodLinkNest own idx (ri_nm M2) tx ∈ ALL ∧ Jvm.Cond.static (ri_nm M2) ∈ ALL
  | (32, mi, n, tx) => ∃ M2, (ri_mts G)[mi]? = some M2 ∧ (parseMethodDescriptor (ri_nm M2).desc).map (fun d => d.parameters.length) = some n ∧ Jvm.Cond.methodLinkNest own idx (ri_nm M2) tx ∈ ALL ∧ Jvm.Cond.instanceMethod (ri_nm M2) ∈ ALL ∧ (ri_nm M2).name = "<init>" ∧ ri_rt M2 = none
  | (7, _, _, _) => Jvm.Cond.methodLink own idx objectInit ∈ ALL ∧ Jvm.Cond.instanceMethod objectInit ∈ ALL ∧ Jvm.Cond.code objectInit ⟨#[0xb1]⟩ 1 none ∈ ALL
  | (10, _, _, _) => Jvm.Cond.methodLink own idx Lib.Math.max.name ∈ ALL ∧ Jvm.Cond.static Lib.Math.max.name ∈ ALL ∧ Jvm.Cond.initialized "java/lang/Math" ∈ ALL ∧ Jvm.Cond.code Lib.Math.max.name Lib.Math.max.code 2 (some .int) ∈ ALL
  | (11, _, _, _) => Jvm.Cond.methodLink own idx Lib.Math.min.name ∈ ALL ∧ Jvm.Cond.static Lib.Math.min.name ∈ ALL ∧ Jvm.Cond.initialized "java/lang/Math" ∈ ALL ∧ Jvm.Cond.code Lib.Math.min.name Lib.Math.min.code 2 (some .int) ∈ ALL
  | (12, _, _, _) => Jvm.Cond.methodLink own idx arraycopyName ∈ ALL ∧ Jvm.Cond.native arraycopyName ∈ ALL ∧ Jvm.Cond.static arraycopyName ∈ ALL ∧ Jvm.Cond.initialized "java/lang/System" ∈ ALL
  | _ => True
def ri_clOK (ALL : List Jvm.Cond) (G : ri_Tb) : Prop := ∀ (ci : Nat) (C : String) (T : u_T) (N : Nat), (ri_cls G)[ci]? = some (C, T, N) → ∃ tys : List FieldType, (ri_fts G)[ci]? = some tys ∧ tys.length = N ∧ (∀ k, k < N → parseFieldDescriptor (T k).2.2.1 = tys[k]?) ∧ (∀ a, a < N → ∀ b, b < N → a ≠ b → (T a).2.1 ≠ (T b).2.1) ∧ ∀ w ∈ u_ws C T N, w ∈ ALL
def ri_lkOK (ALL : List Jvm.Cond) (STR : List (String × Nat × String)) (G : ri_Tb) : Prop := ∀ M ∈ ri_mts G, ∀ q ∈ (ri_cps G).getD (ri_pn M) [], ri_link ALL STR G (ri_own M) q.1 q.2
/-- the links of one method hold -/
def ri_lkM (ALL : List Jvm.Cond) (STR : List (String × Nat × String)) (G : ri_Tb) (M : ri_Mt) : Prop := ∀ q ∈ (ri_cps G).getD (ri_pn M) [], ri_link ALL STR G (ri_own M) q.1 q.2
theorem ri_cp_s {ALL : List Jvm.Cond} {STR : List (String × Nat × String)} {G : ri_Tb} {M : ri_Mt} {idx : Nat} {q : ri_Lk} (_ : ri_lkOK ALL STR G) (hM : ri_lkM ALL STR G M) (h : ri_cp G M idx = some q) : ri_link ALL STR G (ri_own M) idx q := by
  unfold ri_cp at h
  obtain ⟨z, hz, rfl⟩ := Option.map_eq_some_iff.mp h
  have h1 := hM z (List.mem_of_find?_eq_some hz)
  have h2 : z.1 = idx := by simpa using List.find?_some hz
  rw [← h2]
  exact h1
/-- what holds of a method that is walked -/
def ri_Ctx (ALL : List Jvm.Cond) (STR : List (String × Nat × String)) (sa : String → Nat → Nat) (G : ri_Tb) (M : ri_Mt) (D : va_G) (tyc : Nat → ClassId) (A : Nat → Prop) (p : Program) (s : State) (m : MethodId) (args : Array Value) (meth : Method) (c : Code) : Prop :=
  (p.tables.exec = Jvm.exec ∧ c.code = ri_by M ∧ c.maxLocals = ri_mx M ∧ s.vm.findClass (ri_own M) = some m.cls ∧ ((ri_nm M).name = "<init>" → meth.name = "<init>")) ∧ ri_lkM ALL STR G M ∧ ri_clOK ALL G ∧ ri_lkOK ALL STR G ∧ (∀ w ∈ ALL, w.before args s = true) ∧ va_K D (ri_cls G) (ri_tys (ri_aty G) tyc) s ∧ (∀ q, s.heap.size ≤ q → A q) ∧ (∀ q ∈ STR, vk_R q.1 q.2.1 q.2.2 (sa q.1 q.2.1) s)
section RIW1
variable {p : Program} {l : Launch} {e : Env} {R : Room} {s : State} {m : MethodId} {args : Array Value} {below : List Frame} {meth : Method} {c : Code} {H : Heap} {locs : List Loc} {cells slots : Nat} {Q : State → Prop}
variable {ALL : List Jvm.Cond} {STR : List (String × Nat × String)} {G : ri_Tb} {M : ri_Mt} {D : va_G} {tyc : Nat → ClassId} {A : Nat → Prop}
variable {ρ : Nat → Int32} {sa : String → Nat → Nat} {ad : Nat → Nat} {st : List Jvm.Term} {mem : ri_Me} {pc idx : Nat} {ls : Array Slot} {cs : List ri_Cd} {x : ri_H1}
/-- where the walk goes on -/
def ri_KK (p : Program) (l : Launch) (e : Env) (R : Room) (s : State) (m : MethodId) (args : Array Value) (below : List Frame) (meth : Method) (c : Code) (cells slots : Nat) (Q : State → Prop) (G : ri_Tb) (D : va_G) (tyc : Nat → ClassId) (A : Nat → Prop) (ρ : Nat → Int32) (sa : String → Nat → Nat) (ad : Nat → Nat) (mem : ri_Me) (ls : Array Slot) (pc : Nat) (x : ri_H1) : Prop :=
  ∀ (ad' : Nat → Nat) (H' : Heap) (locs' : List Loc), ri_ag mem.length ad ad' → va_P D (ri_cls G) (ri_w ρ sa (ri_aty G) tyc ad' x.2.2.1) H' → va_D A (ri_w ρ sa (ri_aty G) tyc ad' x.2.2.1) → va_S A s.heap H' locs' → ri_okM x.2.2.1.length x.2.2.1 → mem.length ≤ x.2.2.1.length → (∀ t ∈ x.2.1, ri_ok x.2.2.1.length t) →
    W p l e R s m args below meth c H' locs' (cells + x.2.2.2.1) (slots + x.2.2.2.2.1) Q (F0 m (pc + x.1) ls (x.2.1.map (ri_cv ρ sa ad')))
theorem ri_getf_W (hC : ri_Ctx ALL STR sa G M D tyc A p s m args meth c) (h : ri_getf G M idx st mem = some x) (hd : decode (ri_by M) pc = .ok (.getfield idx, x.1)) (hP : va_P D (ri_cls G) (ri_w ρ sa (ri_aty G) tyc ad mem) H) (hD : va_D A (ri_w ρ sa (ri_aty G) tyc ad mem)) (hS : va_S A s.heap H locs) (hok : ri_okM mem.length mem) (hst : ∀ t ∈ st, ri_ok mem.length t)
    (kk : ri_KK p l e R s m args below meth c cells slots Q G D tyc A ρ sa ad mem ls pc x) : W p l e R s m args below meth c H locs cells slots Q (F0 m pc ls (st.map (ri_cv ρ sa ad))) := by
  obtain ⟨⟨hx, hb, hml, hown, hin⟩, hM, hcl, hlk, hts, hK, hA, hstr⟩ := hC
  unfold ri_getf at h
  split at h
  · next kd ci j tx k r hcp =>
    split at h
    · next ci2 fs hm =>
      split at h
      · next t ht =>
        split at h
        · next hk =>
          cases h
          obtain ⟨hk1, rfl⟩ := hk
          have hlink := ri_cp_s hlk hM hcp
          have k1 := kk ad H locs ri_ag_rf hP hD hS hok (Nat.le_refl _) (fun z hz => by
            rcases List.mem_cons.mp hz with rfl | hz
            · exact hok _ (List.mem_of_getElem? hm) _ (List.mem_of_getElem? ht)
            · exact hst z (List.mem_cons_of_mem _ hz))
          have hv : (fs.map (ri_cv ρ sa ad))[j]? = some (ri_cv ρ sa ad t) := by rw [List.getElem?_map, ht]; rfl
          match kd, hk1, hlink with
          | 0, _, hlink =>
            obtain ⟨C, T, N, h1, h2, h3⟩ := hlink
            obtain ⟨tys, -, -, -, -, hin2⟩ := hcl _ _ _ _ h1
            exact va_get (Ts := ALL) hx hb hts hin2 hown hK hP k (ri_w_get hm) h1 j h2 (hts _ h3) (fun _ h9 => h9) hv hd k1
          | 1, _, hlink =>
            obtain ⟨C, T, N, h1, h2, h3⟩ := hlink
            obtain ⟨tys, -, -, -, -, hin2⟩ := hcl _ _ _ _ h1
            exact va_getN (Ts := ALL) hx hb hts hin2 hown hK hP k (ri_w_get hm) h1 j h2 (hts _ h3) (fun _ h9 => h9) hv hd k1
        · cases h
      · cases h
    · cases h
  · cases h
theorem ri_putf_W (hC : ri_Ctx ALL STR sa G M D tyc A p s m args meth c) (h : ri_putf G M idx st mem = some x) (hd : decode (ri_by M) pc = .ok (.putfield idx, x.1)) (hP : va_P D (ri_cls G) (ri_w ρ sa (ri_aty G) tyc ad mem) H) (hD : va_D A (ri_w ρ sa (ri_aty G) tyc ad mem)) (hS : va_S A s.heap H locs) (hok : ri_okM mem.length mem) (hst : ∀ t ∈ st, ri_ok mem.length t)
    (kk : ri_KK p l e R s m args below meth c cells slots Q G D tyc A ρ sa ad mem ls pc x) : W p l e R s m args below meth c H locs cells slots Q (F0 m pc ls (st.map (ri_cv ρ sa ad))) := by
  obtain ⟨⟨hx, hb, hml, hown, hin⟩, hM, hcl, hlk, hts, hK, hA, hstr⟩ := hC
  unfold ri_putf at h
  split at h
  · next kd ci j tx t k r hcp =>
    split at h
    · next ci2 fs C T N ty hm hc1 hty =>
      split at h
      · next hk =>
        cases h
        obtain ⟨hk1, rfl, hl, hfit, hfin⟩ := hk
        have hlink := ri_cp_s hlk hM hcp
        obtain ⟨hn, hf⟩ := ri_fit_s (ρ := ρ) (sa := sa) (ad := ad) hfit
        have ht : ri_ok mem.length t := hst t List.mem_cons_self
        obtain ⟨tys, q1, q2, q3, q4, q5⟩ := hcl _ _ _ _ hc1
        have kA : ∀ (H1 : Heap) (locs1 : List Loc), va_P D (ri_cls G) ((ri_w ρ sa (ri_aty G) tyc ad mem).set k (ad k, .inr (ci2, (fs.map (ri_cv ρ sa ad)).set j (ri_cv ρ sa ad t)))) H1 → va_D A ((ri_w ρ sa (ri_aty G) tyc ad mem).set k (ad k, .inr (ci2, (fs.map (ri_cv ρ sa ad)).set j (ri_cv ρ sa ad t)))) → va_S A s.heap H1 locs1 → W p l e R s m args below meth c H1 locs1 cells slots Q (F0 m (pc + 3) ls (r.map (ri_cv ρ sa ad))) := by
          intro H1 locs1 hP1 hD1 hS1
          rw [ri_map_set] at hP1 hD1
          have e9 := ri_w_set (ρ := ρ) (sa := sa) (aty := ri_aty G) (tyc := tyc) (ad := ad) (mem := mem) (k := k) (e := .inl (ci2, fs.set j t))
          simp only [ri_ce] at e9
          rw [e9] at hP1 hD1
          refine kk ad H1 locs1 ri_ag_rf hP1 hD1 hS1 ?_ ?_ ?_
          · show ri_okM (mem.set k _).length _
            rw [List.length_set]
            exact ri_okM_set hok (ri_ok_set (hok _ (List.mem_of_getElem? hm)) ht)
          · show mem.length ≤ (mem.set k _).length
            rw [List.length_set]; exact Nat.le_refl _
          · intro z hz
            show ri_ok (mem.set k _).length z
            rw [List.length_set]
            exact hst z (List.mem_cons_of_mem _ (List.mem_cons_of_mem _ hz))
        have hlm : j < (fs.map (ri_cv ρ sa ad)).length := by rw [List.length_map]; exact hl
        have hdt : (ri_fts G).getD ci2 [] = tys := by rw [List.getD_eq_getElem?_getD, q1]; rfl
        rw [hdt] at hty
        have hty0 : ∀ k, k < N → parseFieldDescriptor (T k).2.2.1 = some (tys.getD k .int) := fun k hk => by
          rw [q3 k hk, List.getD_eq_getElem?_getD]
          rw [← q2] at hk
          rw [List.getElem?_eq_getElem hk]; rfl
        match kd, hk1, hlink, hfin with
        | 0, _, hlink, hfin =>
          obtain ⟨C2, T2, N2, h1, h2, h3⟩ := hlink
          rw [hc1] at h1
          cases h1
          have hpd : parseFieldDescriptor (T j).2.2.1 = some ty := by rw [q3 j h2]; exact hty
          rcases hfin with hfin | ⟨-, hi, hde⟩
          · exact va_put (Ts := ALL) hx hb hts q5 _ hty0 q4 hown hK hP hD hS k (ri_w_get hm) hc1 j h2 (hts _ h3) (fun _ h9 => h9) hfin hpd hn hf hlm hd kA
          · by_cases hfin : (T j).2.2.2 = true
            · exact va_putF (Ts := ALL) hx hb hts q5 _ hty0 q4 hown hK hP hD hS k (ri_w_get hm) hc1 j h2 (hts _ h3) (fun _ h9 => h9) hfin (hin hi) hde hpd hn hf hlm hd kA
            · exact va_put (Ts := ALL) hx hb hts q5 _ hty0 q4 hown hK hP hD hS k (ri_w_get hm) hc1 j h2 (hts _ h3) (fun _ h9 => h9) (by simpa using hfin) hpd hn hf hlm hd kA
        | 1, _, hlink, hfin =>
          obtain ⟨C2, T2, N2, h1, h2, h3⟩ := hlink
          rw [hc1] at h1
          cases h1
          have hpd : parseFieldDescriptor (T j).2.2.1 = some ty := by rw [q3 j h2]; exact hty
          rcases hfin with hfin | ⟨h0, -⟩
          · exact va_putN (Ts := ALL) hx hb hts q5 _ hty0 q4 hown hK hP hD hS k (ri_w_get hm) hc1 j h2 (hts _ h3) (fun _ h9 => h9) hfin hpd hn hf hlm hd kA
          · cases h0
      · cases h
    · cases h
  · cases h
theorem ri_ce_int {ty n : Nat} {d : Jvm.Term} {ov : List (Nat × Jvm.Term)} (h : (ri_aty G)[ty]? = some .int) : ri_ce ρ sa (ri_aty G) tyc ad (.inr (ty, n, d, ov)) = .inl (tyc ty, n, .inl (fun j => ri_gI (ri_cv ρ sa ad (ri_look d ov j)))) := by
  simp only [ri_ce]
  rw [h]
  rfl
theorem ri_ce_ref {ty n : Nat} {C : String} {d : Jvm.Term} {ov : List (Nat × Jvm.Term)} (h : (ri_aty G)[ty]? = some (.object C)) : ri_ce ρ sa (ri_aty G) tyc ad (.inr (ty, n, d, ov)) = .inl (tyc ty, n, .inr (.inr (.inr (.inr (fun j => ri_gR (ri_cv ρ sa ad (ri_look d ov j))))))) := by
  simp only [ri_ce]
  rw [h]
  rfl
theorem ri_all_cons0 {n : Nat} {t : Jvm.Term} {st : List Jvm.Term} (h : ri_ok n t) (hs : ∀ z ∈ st, ri_ok n z) : ∀ z ∈ t :: st, ri_ok n z := fun z hz => by
  rcases List.mem_cons.mp hz with rfl | hz
  · exact h
  · exact hs z hz
/-- an index in range, by its bounds -/
theorem ri_in_s {i : Jvm.Term} {n : Nat} (hsat : ∀ q ∈ cs, ri_sat ρ q) (hk : ri_k i = 0) (h1 : 0 ≤ (ri_bd cs i).1) (h2 : (ri_bd cs i).2 < (n : Int)) : vp_in (ri_iv ρ i) n := by
  obtain ⟨b1, b2⟩ := (ri_bd_s hsat i).1 hk
  intro h
  rcases h with h | h
  · rw [Int32.lt_iff_toInt_lt] at h
    have e : (0 : Int32).toInt = 0 := by decide
    omega
  · have e : ((ri_iv ρ i).toNatClampNeg : Int) = (ri_iv ρ i).toInt := by
      show (((ri_iv ρ i).toInt.toNat : Nat) : Int) = _
      omega
    omega
/-- the facts of the script -/
def ri_hsc (M : ri_Mt) (ρ : Nat → Int32) (sa : String → Nat → Nat) (A : Nat → Prop) (s : State) : Prop := ri_lw M = true → va_X (sa "" 0) 6 ρ s s.heap ∧ sa "" 0 < s.heap.size ∧ ¬ A (sa "" 0)
theorem ri_sld_W (hsc : ri_hsc M ρ sa A s) (hC : ri_Ctx ALL STR sa G M D tyc A p s m args meth c) (h : ri_sld M st mem = some x) (hd : decode (ri_by M) pc = .ok (.iaload, x.1)) (hP : va_P D (ri_cls G) (ri_w ρ sa (ri_aty G) tyc ad mem) H) (hD : va_D A (ri_w ρ sa (ri_aty G) tyc ad mem)) (hS : va_S A s.heap H locs) (hok : ri_okM mem.length mem) (hst : ∀ t ∈ st, ri_ok mem.length t)
    (kk : ri_KK p l e R s m args below meth c cells slots Q G D tyc A ρ sa ad mem ls pc x) : W p l e R s m args below meth c H locs cells slots Q (F0 m pc ls (st.map (ri_cv ρ sa ad))) := by
  obtain ⟨⟨hx, hb, hml, hown, hin⟩, hM, hcl, hlk, hts, hK, hA, hstr⟩ := hC
  unfold ri_sld at h
  split at h
  · next i tx k r =>
    split at h
    · next j hj =>
      split at h
      · next hk =>
        cases h
        obtain ⟨hl, rfl, rfl⟩ := hk
        obtain ⟨s1, s2, s3⟩ := hsc hl
        obtain ⟨v, rfl, hv, hvj, hjn⟩ := ri_ix_s hj
        have k1 := kk ad H locs ri_ag_rf hP hD hS hok (Nat.le_refl _) (ri_all_cons0 trivial (fun z hz => hst z (List.mem_cons_of_mem _ (List.mem_cons_of_mem _ hz))))
        rw [List.map_cons, ← hvj] at k1
        exact va_sld hx hb s1 s2 s3 hS hv hd k1
      · cases h
    · cases h
  · cases h
theorem ri_slen_W (hsc : ri_hsc M ρ sa A s) (hC : ri_Ctx ALL STR sa G M D tyc A p s m args meth c) (h : ri_slen M st mem = some x) (hd : decode (ri_by M) pc = .ok (.arraylength, x.1)) (hP : va_P D (ri_cls G) (ri_w ρ sa (ri_aty G) tyc ad mem) H) (hD : va_D A (ri_w ρ sa (ri_aty G) tyc ad mem)) (hS : va_S A s.heap H locs) (hok : ri_okM mem.length mem) (hst : ∀ t ∈ st, ri_ok mem.length t)
    (kk : ri_KK p l e R s m args below meth c cells slots Q G D tyc A ρ sa ad mem ls pc x) : W p l e R s m args below meth c H locs cells slots Q (F0 m pc ls (st.map (ri_cv ρ sa ad))) := by
  obtain ⟨⟨hx, hb, hml, hown, hin⟩, hM, hcl, hlk, hts, hK, hA, hstr⟩ := hC
  unfold ri_slen at h
  split at h
  · next tx k r =>
    split at h
    · next hk =>
      cases h
      obtain ⟨hl, rfl, rfl⟩ := hk
      obtain ⟨s1, s2, s3⟩ := hsc hl
      have k1 := kk ad H locs ri_ag_rf hP hD hS hok (Nat.le_refl _) (ri_all_cons0 trivial (fun z hz => hst z (List.mem_cons_of_mem _ hz)))
      exact va_slen hx hb s1 s2 s3 hS hd k1
    · cases h
  · cases h
theorem ri_iald_W (hC : ri_Ctx ALL STR sa G M D tyc A p s m args meth c) (h : ri_iald G cs st mem = some x) (hd : decode (ri_by M) pc = .ok (.iaload, x.1)) (hP : va_P D (ri_cls G) (ri_w ρ sa (ri_aty G) tyc ad mem) H) (hD : va_D A (ri_w ρ sa (ri_aty G) tyc ad mem)) (hS : va_S A s.heap H locs) (hok : ri_okM mem.length mem) (hst : ∀ t ∈ st, ri_ok mem.length t)
    (hsat : ∀ q ∈ cs, ri_sat ρ q) (hob : ∀ o ∈ x.2.2.2.2.2, ri_obs ρ o)
    (kk : ri_KK p l e R s m args below meth c cells slots Q G D tyc A ρ sa ad mem ls pc x) : W p l e R s m args below meth c H locs cells slots Q (F0 m pc ls (st.map (ri_cv ρ sa ad))) := by
  obtain ⟨⟨hx, hb, hml, hown, hin⟩, hM, hcl, hlk, hts, hK, hA, hstr⟩ := hC
  unfold ri_iald at h
  split at h
  · next i k r =>
    split at h
    · next ty n d ov hm =>
      split at h
      · next hty =>
        have hw := ri_w_get (ρ := ρ) (sa := sa) (aty := ri_aty G) (tyc := tyc) (ad := ad) hm
        rw [ri_ce_int hty] at hw
        have hokc := hok _ (List.mem_of_getElem? hm)
        split at h
        · next j hj =>
          split at h
          · next hk0 =>
            cases h
            obtain ⟨v, rfl, hv, hvj, hjn⟩ := ri_ix_s hj
            have k1 := kk ad H locs ri_ag_rf hP hD hS hok (Nat.le_refl _) (fun z hz => by
              rcases List.mem_cons.mp hz with rfl | hz
              · exact ri_look_ok hokc.1 hokc.2
              · exact hst z (List.mem_cons_of_mem _ (List.mem_cons_of_mem _ hz)))
            rw [List.map_cons, ri_I hk0, ← hvj] at k1
            exact va_iald hx hb hK hP k ty hw (ri_tys_get hty) hv hd k1
          · cases h
        · next hj =>
          split at h
          · split at h
            · next hk0 =>
              cases h
              obtain ⟨hk0, hk1, hb1, hb2⟩ := hk0
              have k1 := kk ad H locs ri_ag_rf hP hD hS hok (Nat.le_refl _) (fun z hz => by
                rcases List.mem_cons.mp hz with rfl | hz
                · exact hokc.1
                · exact hst z (List.mem_cons_of_mem _ (List.mem_cons_of_mem _ hz)))
              have hv := ri_in_s hsat hk0 hb1 hb2
              rw [List.map_cons, ri_I hk1] at k1
              rw [List.map_cons, List.map_cons, ri_ivI hk0]
              exact va_iald hx hb hK hP k ty hw (ri_tys_get hty) hv hd k1
            · cases h
          · cases h
      · cases h
    · cases h
  · cases h
theorem ri_iast_W (hC : ri_Ctx ALL STR sa G M D tyc A p s m args meth c) (h : ri_iast G st mem = some x) (hd : decode (ri_by M) pc = .ok (.iastore, x.1)) (hP : va_P D (ri_cls G) (ri_w ρ sa (ri_aty G) tyc ad mem) H) (hD : va_D A (ri_w ρ sa (ri_aty G) tyc ad mem)) (hS : va_S A s.heap H locs) (hok : ri_okM mem.length mem) (hst : ∀ t ∈ st, ri_ok mem.length t)
    (kk : ri_KK p l e R s m args below meth c cells slots Q G D tyc A ρ sa ad mem ls pc x) : W p l e R s m args below meth c H locs cells slots Q (F0 m pc ls (st.map (ri_cv ρ sa ad))) := by
  obtain ⟨⟨hx, hb, hml, hown, hin⟩, hM, hcl, hlk, hts, hK, hA, hstr⟩ := hC
  unfold ri_iast at h
  split at h
  · next t i k r =>
    split at h
    · next ty n d ov hm =>
      split at h
      · next j hj =>
        split at h
        · next hk0 =>
          cases h
          obtain ⟨hty, hk0⟩ := hk0
          have hw := ri_w_get (ρ := ρ) (sa := sa) (aty := ri_aty G) (tyc := tyc) (ad := ad) hm
          rw [ri_ce_int hty] at hw
          have hokc := hok _ (List.mem_of_getElem? hm)
          obtain ⟨v, rfl, hv, hvj, hjn⟩ := ri_ix_s hj
          rw [List.map_cons, ri_I hk0]
          refine va_iast hx hb hK hP hD hS k ty hw (ri_tys_get hty) hv hd (fun H1 locs1 hP1 hD1 hS1 => ?_)
          have e8 : upd (fun j => ri_gI (ri_cv ρ sa ad (ri_look d ov j))) v.toNatClampNeg (ri_gI (ri_cv ρ sa ad t)) = fun i => ri_gI (ri_cv ρ sa ad (ri_look d (ri_put d ov j t) i)) := by
            funext i
            rw [ri_put_cv, hvj]
            unfold upd
            split <;> rfl
          have e9 := ri_w_set (ρ := ρ) (sa := sa) (aty := ri_aty G) (tyc := tyc) (ad := ad) (mem := mem) (k := k) (e := .inr (ty, n, d, ri_put d ov j t))
          rw [ri_ce_int hty] at e9
          rw [e8, e9] at hP1 hD1
          refine kk ad H1 locs1 ri_ag_rf hP1 hD1 hS1 ?_ ?_ ?_
          · show ri_okM (mem.set k _).length _
            rw [List.length_set]
            exact ri_okM_set hok ⟨hokc.1, ri_put_ok (hst t List.mem_cons_self) hokc.2⟩
          · show mem.length ≤ (mem.set k _).length
            rw [List.length_set]; exact Nat.le_refl _
          · intro z hz
            show ri_ok (mem.set k _).length z
            rw [List.length_set]
            exact hst z (List.mem_cons_of_mem _ (List.mem_cons_of_mem _ (List.mem_cons_of_mem _ hz)))
        · cases h
      · cases h
    · cases h
  · cases h
theorem ri_ce_long {ty n : Nat} {d : Jvm.Term} {ov : List (Nat × Jvm.Term)} (h : (ri_aty G)[ty]? = some .long) : ri_ce ρ sa (ri_aty G) tyc ad (.inr (ty, n, d, ov)) = .inl (tyc ty, n, .inr (.inl (fun j => ri_gL (ri_cv ρ sa ad (ri_look d ov j))))) := by
  simp only [ri_ce]
  rw [h]
  rfl
theorem ri_lald_W (hC : ri_Ctx ALL STR sa G M D tyc A p s m args meth c) (h : ri_lald G st mem = some x) (hd : decode (ri_by M) pc = .ok (.laload, x.1)) (hP : va_P D (ri_cls G) (ri_w ρ sa (ri_aty G) tyc ad mem) H) (hD : va_D A (ri_w ρ sa (ri_aty G) tyc ad mem)) (hS : va_S A s.heap H locs) (hok : ri_okM mem.length mem) (hst : ∀ t ∈ st, ri_ok mem.length t)
    (kk : ri_KK p l e R s m args below meth c cells slots Q G D tyc A ρ sa ad mem ls pc x) : W p l e R s m args below meth c H locs cells slots Q (F0 m pc ls (st.map (ri_cv ρ sa ad))) := by
  obtain ⟨⟨hx, hb, hml, hown, hin⟩, hM, hcl, hlk, hts, hK, hA, hstr⟩ := hC
  unfold ri_lald at h
  split at h
  · next i k r =>
    split at h
    · next ty n d ov hm =>
      split at h
      · next j hj =>
        split at h
        · next hk0 =>
          cases h
          obtain ⟨hty, hk0⟩ := hk0
          have hw := ri_w_get (ρ := ρ) (sa := sa) (aty := ri_aty G) (tyc := tyc) (ad := ad) hm
          rw [ri_ce_long hty] at hw
          have hokc := hok _ (List.mem_of_getElem? hm)
          obtain ⟨v, rfl, hv, hvj, hjn⟩ := ri_ix_s hj
          have k1 := kk ad H locs ri_ag_rf hP hD hS hok (Nat.le_refl _) (fun z hz => by
            rcases List.mem_cons.mp hz with rfl | hz
            · exact ri_look_ok hokc.1 hokc.2
            · exact hst z (List.mem_cons_of_mem _ (List.mem_cons_of_mem _ hz)))
          rw [List.map_cons, ri_L hk0, ← hvj] at k1
          exact va_lald hx hb hK hP k ty hw (ri_tys_get hty) hv hd k1
        · cases h
      · cases h
    · cases h
  · cases h
theorem ri_last_W (hC : ri_Ctx ALL STR sa G M D tyc A p s m args meth c) (h : ri_last G st mem = some x) (hd : decode (ri_by M) pc = .ok (.lastore, x.1)) (hP : va_P D (ri_cls G) (ri_w ρ sa (ri_aty G) tyc ad mem) H) (hD : va_D A (ri_w ρ sa (ri_aty G) tyc ad mem)) (hS : va_S A s.heap H locs) (hok : ri_okM mem.length mem) (hst : ∀ t ∈ st, ri_ok mem.length t)
    (kk : ri_KK p l e R s m args below meth c cells slots Q G D tyc A ρ sa ad mem ls pc x) : W p l e R s m args below meth c H locs cells slots Q (F0 m pc ls (st.map (ri_cv ρ sa ad))) := by
  obtain ⟨⟨hx, hb, hml, hown, hin⟩, hM, hcl, hlk, hts, hK, hA, hstr⟩ := hC
  unfold ri_last at h
  split at h
  · next t i k r =>
    split at h
    · next ty n d ov hm =>
      split at h
      · next j hj =>
        split at h
        · next hk0 =>
          cases h
          obtain ⟨hty, hk0⟩ := hk0
          have hw := ri_w_get (ρ := ρ) (sa := sa) (aty := ri_aty G) (tyc := tyc) (ad := ad) hm
          rw [ri_ce_long hty] at hw
          have hokc := hok _ (List.mem_of_getElem? hm)
          obtain ⟨v, rfl, hv, hvj, hjn⟩ := ri_ix_s hj
          rw [List.map_cons, ri_L hk0]
          refine va_last hx hb hK hP hD hS k ty hw (ri_tys_get hty) hv hd (fun H1 locs1 hP1 hD1 hS1 => ?_)
          have e8 : vp_updL (fun j => ri_gL (ri_cv ρ sa ad (ri_look d ov j))) v.toNatClampNeg (ri_gL (ri_cv ρ sa ad t)) = fun i => ri_gL (ri_cv ρ sa ad (ri_look d (ri_put d ov j t) i)) := by
            funext i
            rw [ri_put_cv, hvj]
            unfold vp_updL
            split <;> rfl
          have e9 := ri_w_set (ρ := ρ) (sa := sa) (aty := ri_aty G) (tyc := tyc) (ad := ad) (mem := mem) (k := k) (e := .inr (ty, n, d, ri_put d ov j t))
          rw [ri_ce_long hty] at e9
          rw [e8, e9] at hP1 hD1
          refine kk ad H1 locs1 ri_ag_rf hP1 hD1 hS1 ?_ ?_ ?_
          · show ri_okM (mem.set k _).length _
            rw [List.length_set]
            exact ri_okM_set hok ⟨hokc.1, ri_put_ok (hst t List.mem_cons_self) hokc.2⟩
          · show mem.length ≤ (mem.set k _).length
            rw [List.length_set]; exact Nat.le_refl _
          · intro z hz
            show ri_ok (mem.set k _).length z
            rw [List.length_set]
            exact hst z (List.mem_cons_of_mem _ (List.mem_cons_of_mem _ (List.mem_cons_of_mem _ hz)))
        · cases h
      · cases h
    · cases h
  · cases h
theorem ri_rf {t : Jvm.Term} (h : ri_k t = 2 ∨ ri_k t = 3) : va_rf (ri_gR (ri_cv ρ sa ad t)) = ri_cv ρ sa ad t := by
  rcases h with h | h
  · obtain ⟨a, ha⟩ := ri_R (ρ := ρ) (sa := sa) (ad := ad) h
    rw [ha]; rfl
  · rw [ri_N h]; rfl
theorem ri_aald_W (hC : ri_Ctx ALL STR sa G M D tyc A p s m args meth c) (h : ri_aald G st mem = some x) (hd : decode (ri_by M) pc = .ok (.aaload, x.1)) (hP : va_P D (ri_cls G) (ri_w ρ sa (ri_aty G) tyc ad mem) H) (hD : va_D A (ri_w ρ sa (ri_aty G) tyc ad mem)) (hS : va_S A s.heap H locs) (hok : ri_okM mem.length mem) (hst : ∀ t ∈ st, ri_ok mem.length t)
    (kk : ri_KK p l e R s m args below meth c cells slots Q G D tyc A ρ sa ad mem ls pc x) : W p l e R s m args below meth c H locs cells slots Q (F0 m pc ls (st.map (ri_cv ρ sa ad))) := by
  obtain ⟨⟨hx, hb, hml, hown, hin⟩, hM, hcl, hlk, hts, hK, hA, hstr⟩ := hC
  unfold ri_aald at h
  split at h
  · next i k r =>
    split at h
    · next ty n d ov hm =>
      split at h
      · next j C hj hty =>
        split at h
        · next hk0 =>
          cases h
          have hw := ri_w_get (ρ := ρ) (sa := sa) (aty := ri_aty G) (tyc := tyc) (ad := ad) hm
          rw [ri_ce_ref hty] at hw
          have hokc := hok _ (List.mem_of_getElem? hm)
          obtain ⟨v, rfl, hv, hvj, hjn⟩ := ri_ix_s hj
          have k1 := kk ad H locs ri_ag_rf hP hD hS hok (Nat.le_refl _) (fun z hz => by
            rcases List.mem_cons.mp hz with rfl | hz
            · exact ri_look_ok hokc.1 hokc.2
            · exact hst z (List.mem_cons_of_mem _ (List.mem_cons_of_mem _ hz)))
          rw [List.map_cons, ← ri_rf hk0, ← hvj] at k1
          exact va_aldq hx hb hK hP k ty hw (ri_tys_get hty) hv hd k1
        · cases h
      · cases h
    · cases h
  · cases h
theorem ri_aast_W (hC : ri_Ctx ALL STR sa G M D tyc A p s m args meth c) (h : ri_aast G st mem = some x) (hd : decode (ri_by M) pc = .ok (.aastore, x.1)) (hP : va_P D (ri_cls G) (ri_w ρ sa (ri_aty G) tyc ad mem) H) (hD : va_D A (ri_w ρ sa (ri_aty G) tyc ad mem)) (hS : va_S A s.heap H locs) (hok : ri_okM mem.length mem) (hst : ∀ t ∈ st, ri_ok mem.length t)
    (kk : ri_KK p l e R s m args below meth c cells slots Q G D tyc A ρ sa ad mem ls pc x) : W p l e R s m args below meth c H locs cells slots Q (F0 m pc ls (st.map (ri_cv ρ sa ad))) := by
  obtain ⟨⟨hx, hb, hml, hown, hin⟩, hM, hcl, hlk, hts, hK, hA, hstr⟩ := hC
  unfold ri_aast at h
  split at h
  · next kv i k r =>
    split at h
    · next ty n d ov ci fs hm hmv =>
      split at h
      · next j rr hj hc1 =>
        split at h
        · next hty =>
          cases h
          have hw := ri_w_get (ρ := ρ) (sa := sa) (aty := ri_aty G) (tyc := tyc) (ad := ad) hm
          rw [ri_ce_ref hty] at hw
          have hwv := ri_w_get (ρ := ρ) (sa := sa) (aty := ri_aty G) (tyc := tyc) (ad := ad) hmv
          have hokc := hok _ (List.mem_of_getElem? hm)
          obtain ⟨v, rfl, hv, hvj, hjn⟩ := ri_ix_s hj
          refine va_astq hx hb hK hP hD hS k ty kv ci hw (ri_tys_get hty) hwv hc1 hv hd (fun H1 locs1 hP1 hD1 hS1 => ?_)
          have e8 : va_up (fun j => ri_gR (ri_cv ρ sa ad (ri_look d ov j))) v.toNatClampNeg (some (ad kv)) = fun i => ri_gR (ri_cv ρ sa ad (ri_look d (ri_put d ov j (.index kv)) i)) := by
            funext i
            rw [ri_put_cv, hvj]
            unfold va_up
            split <;> rfl
          have e9 := ri_w_set (ρ := ρ) (sa := sa) (aty := ri_aty G) (tyc := tyc) (ad := ad) (mem := mem) (k := k) (e := .inr (ty, n, d, ri_put d ov j (.index kv)))
          rw [ri_ce_ref hty] at e9
          rw [e8, e9] at hP1 hD1
          refine kk ad H1 locs1 ri_ag_rf hP1 hD1 hS1 ?_ ?_ ?_
          · show ri_okM (mem.set k _).length _
            rw [List.length_set]
            exact ri_okM_set hok ⟨hokc.1, ri_put_ok (hst _ List.mem_cons_self) hokc.2⟩
          · show mem.length ≤ (mem.set k _).length
            rw [List.length_set]; exact Nat.le_refl _
          · intro z hz
            show ri_ok (mem.set k _).length z
            rw [List.length_set]
            exact hst z (List.mem_cons_of_mem _ (List.mem_cons_of_mem _ (List.mem_cons_of_mem _ hz)))
        · cases h
      · cases h
    · cases h
  · cases h
theorem ri_alen_W (hC : ri_Ctx ALL STR sa G M D tyc A p s m args meth c) (h : ri_alen G st mem = some x) (hd : decode (ri_by M) pc = .ok (.arraylength, x.1)) (hP : va_P D (ri_cls G) (ri_w ρ sa (ri_aty G) tyc ad mem) H) (hD : va_D A (ri_w ρ sa (ri_aty G) tyc ad mem)) (hS : va_S A s.heap H locs) (hok : ri_okM mem.length mem) (hst : ∀ t ∈ st, ri_ok mem.length t)
    (kk : ri_KK p l e R s m args below meth c cells slots Q G D tyc A ρ sa ad mem ls pc x) : W p l e R s m args below meth c H locs cells slots Q (F0 m pc ls (st.map (ri_cv ρ sa ad))) := by
  obtain ⟨⟨hx, hb, hml, hown, hin⟩, hM, hcl, hlk, hts, hK, hA, hstr⟩ := hC
  unfold ri_alen at h
  split at h
  · next k r =>
    split at h
    · next ty n d ov hm =>
      split at h
      · next z hz =>
        cases h
        have hw := ri_w_get (ρ := ρ) (sa := sa) (aty := ri_aty G) (tyc := tyc) (ad := ad) hm
        have k1 := kk ad H locs ri_ag_rf hP hD hS hok (Nat.le_refl _) (fun z hz => by
          rcases List.mem_cons.mp hz with rfl | hz
          · rw [ri_ci_eq]; trivial
          · exact hst z (List.mem_cons_of_mem _ hz))
        rw [List.map_cons, ri_ci_eq] at k1
        exact va_alen hx hb hK hP k ty hw (ri_tys_get hz) rfl hd k1
      · cases h
    · cases h
  · cases h
theorem ri_newo_W (hC : ri_Ctx ALL STR sa G M D tyc A p s m args meth c) (h : ri_newo G M idx st mem = some x) (hd : decode (ri_by M) pc = .ok (.new idx, x.1)) (hP : va_P D (ri_cls G) (ri_w ρ sa (ri_aty G) tyc ad mem) H) (hD : va_D A (ri_w ρ sa (ri_aty G) tyc ad mem)) (hS : va_S A s.heap H locs) (hok : ri_okM mem.length mem) (hst : ∀ t ∈ st, ri_ok mem.length t)
    (hc1 : cells + x.2.2.2.1 ≤ R.cells) (hs1 : slots + x.2.2.2.2.1 ≤ R.slots)
    (kk : ri_KK p l e R s m args below meth c cells slots Q G D tyc A ρ sa ad mem ls pc x) : W p l e R s m args below meth c H locs cells slots Q (F0 m pc ls (st.map (ri_cv ρ sa ad))) := by
  obtain ⟨⟨hx, hb, hml, hown, hin⟩, hM, hcl, hlk, hts, hK, hA, hstr⟩ := hC
  unfold ri_newo at h
  split at h
  · next ci b tx hcp =>
    split at h
    · next C0 T0 N tys hc0 hty =>
      cases h
      obtain ⟨C, T, N2, g1, g2, g3, g4⟩ := ri_cp_s hlk hM hcp
      rw [hc0] at g1
      cases g1
      obtain ⟨tys2, q1, q2, q3, q4, q5⟩ := hcl _ _ _ _ hc0
      rw [hty] at q1
      cases q1
      have hty0 : ∀ k, k < N → parseFieldDescriptor (T0 k).2.2.1 = some (tys.getD k .int) := fun k hk => by
        rw [q3 k hk, List.getD_eq_getElem?_getD]
        rw [← q2] at hk
        rw [List.getElem?_eq_getElem hk]; rfl
      refine va_new (Ts := ALL) (ci := ci) (fs := (tys.map ri_dft).map (ri_cv ρ sa ad)) hx hb hts q5 (fun k => tys.getD k .int) hty0 hown (hts _ g2) (hts _ g3) (hts _ g4) hK hP hD hS hA hc0 ?_ hc1 hs1 hd (fun q H1 hP1 hD1 hS1 => ?_)
      · intro j hj
        rw [← q2] at hj
        simp only [vp_V, List.getD_eq_getElem?_getD, List.getElem?_map, List.getElem?_eq_getElem hj, Option.map_some, Option.getD_some]
        exact (ri_dft_s _).symm
      · have e9 := ri_w_push (ρ := ρ) (sa := sa) (aty := ri_aty G) (tyc := tyc) (ad := ad) (q := q) (e := .inl (ci, tys.map ri_dft)) hok
        have hag : ri_ag mem.length ad (fun k => if k = mem.length then q else ad k) := fun k hk => if_neg (Nat.ne_of_lt hk)
        have hok2 : ∀ t ∈ tys.map ri_dft, ri_ok mem.length t := fun t ht => by
          obtain ⟨ty, -, rfl⟩ := List.mem_map.mp ht
          exact ri_dft_ok ty
        have e8 : ri_ce ρ sa (ri_aty G) tyc (fun k => if k = mem.length then q else ad k) (.inl (ci, tys.map ri_dft)) = .inr (ci, (tys.map ri_dft).map (ri_cv ρ sa ad)) := by
          simp only [ri_ce]
          rw [ri_map_ag hok2 hag]
        rw [e8] at e9
        rw [← e9] at hP1 hD1
        have hlen : (mem ++ [(.inl (ci, tys.map ri_dft) : ri_Ce)]).length = mem.length + 1 := by simp
        have k1 := kk (fun k => if k = mem.length then q else ad k) H1 locs hag hP1 hD1 hS1 (by
          show ri_okM (mem ++ [_]).length (mem ++ [_])
          rw [hlen]
          exact ri_okM_push hok (fun t ht => ri_ok_mono (hok2 t ht) (Nat.le_succ _))) (by
          show mem.length ≤ (mem ++ [_]).length
          rw [hlen]; exact Nat.le_succ _) (by
          intro z hz
          show ri_ok (mem ++ [_]).length z
          rw [hlen]
          rcases List.mem_cons.mp hz with rfl | hz
          · exact Nat.lt_succ_self _
          · exact ri_ok_mono (hst z hz) (Nat.le_succ _))
        have e7 : ((.index mem.length :: st : List Jvm.Term).map (ri_cv ρ sa (fun k => if k = mem.length then q else ad k))) = .ref q :: st.map (ri_cv ρ sa ad) := by
          rw [List.map_cons, ri_map_ag hst hag]
          show Value.ref (if mem.length = mem.length then q else ad mem.length) :: _ = _
          rw [if_pos rfl]
        have k2 := k1
        simp only [e7] at k2
        exact k2
    · cases h
  · cases h
theorem ri_unique {cl : List vw_C} {aty : List FieldType} {j : Nat} {ty : FieldType} {cA : ClassId} (hK : va_K D cl (ri_tys aty tyc) s) (hj : aty[j]? = some ty) (hK2 : va_K D cl (ri_tys aty tyc ++ [(cA, ty)]) s) : cA = tyc j := by
  have h1 := (hK.2 j _ (ri_tys_get hj)).2
  have h2 := (hK2.2 (ri_tys aty tyc).length (cA, ty) (by simp)).2
  cases ty with
  | object C =>
    obtain ⟨-, -, -, -, -, e1⟩ := h1
    obtain ⟨-, -, -, -, -, e2⟩ := h2
    exact Option.some.inj (e2.symm.trans e1)
  | _ => exact Option.some.inj (Eq.trans (Eq.symm h2) h1)
/-- a new row: what is behind it -/
theorem ri_newr_k {a N : Nat} {d : Jvm.Term} {len : Nat} {r : List Jvm.Term} {q : Nat} {H1 : Heap} {va : va_E} (hS1 : va_S A s.heap H1 locs) (hok : ri_okM mem.length mem) (hst : ∀ t ∈ r, ri_ok mem.length t) (hdk : ∀ k, d ≠ .index k)
    (hce : ∀ ad2, ri_ce ρ sa (ri_aty G) tyc ad2 (.inr (a, N, d, [])) = va) (hP1 : va_P D (ri_cls G) (ri_w ρ sa (ri_aty G) tyc ad mem ++ [(q, va)]) H1) (hD1 : va_D A (ri_w ρ sa (ri_aty G) tyc ad mem ++ [(q, va)]))
    (kk : ri_KK p l e R s m args below meth c cells slots Q G D tyc A ρ sa ad mem ls pc (len, .index mem.length :: r, mem ++ [.inr (a, N, d, [])], 1, N, [])) :
    W p l e R s m args below meth c H1 locs (cells + 1) (slots + N) Q (F0 m (pc + len) ls (.ref q :: r.map (ri_cv ρ sa ad))) := by
  have e9 := ri_w_push (ρ := ρ) (sa := sa) (aty := ri_aty G) (tyc := tyc) (ad := ad) (q := q) (e := .inr (a, N, d, [])) hok
  have hag : ri_ag mem.length ad (fun k => if k = mem.length then q else ad k) := fun k hk => if_neg (Nat.ne_of_lt hk)
  rw [hce] at e9
  rw [← e9] at hP1 hD1
  have hokd : ∀ n, ri_ok n d := fun n => by cases d <;> first | trivial | exact absurd rfl (hdk _)
  have hlen : (mem ++ [(.inr (a, N, d, []) : ri_Ce)]).length = mem.length + 1 := by simp
  have k1 := kk (fun k => if k = mem.length then q else ad k) H1 locs hag hP1 hD1 hS1 (by
    show ri_okM (mem ++ [_]).length (mem ++ [_])
    rw [hlen]
    exact ri_okM_push hok ⟨hokd _, fun q hq => by cases hq⟩) (by
    show mem.length ≤ (mem ++ [_]).length
    rw [hlen]; exact Nat.le_succ _) (by
    intro z hz
    show ri_ok (mem ++ [_]).length z
    rw [hlen]
    rcases List.mem_cons.mp hz with rfl | hz
    · exact Nat.lt_succ_self _
    · exact ri_ok_mono (hst z hz) (Nat.le_succ _))
  have e7 : ((.index mem.length :: r : List Jvm.Term).map (ri_cv ρ sa (fun k => if k = mem.length then q else ad k))) = .ref q :: r.map (ri_cv ρ sa ad) := by
    rw [List.map_cons, ri_map_ag hst hag]
    show Value.ref (if mem.length = mem.length then q else ad mem.length) :: _ = _
    rw [if_pos rfl]
  have k2 := k1
  simp only [e7] at k2
  exact k2
theorem ri_newr_s {ty : FieldType} {len : Nat} (h : ri_newr G ty len st mem = some x) : ∃ (v : Int32) (r : List Jvm.Term) (a : Nat), st = .int v :: r ∧ (ri_aty G)[a]? = some ty ∧ ri_isI ty = true ∧ ¬ v < 0 ∧ v.toNatClampNeg ≤ 65536 ∧ x = (len, .index mem.length :: r, mem ++ [.inr (a, v.toNatClampNeg, ri_dft ty, [])], 1, v.toNatClampNeg, []) := by
  unfold ri_newr at h
  split at h
  · next v r a ha =>
    split at h
    · next hk =>
      cases h
      refine ⟨v, r, a, rfl, ?_, hk.1, hk.2.1, hk.2.2, rfl⟩
      obtain ⟨ha1, ha2, -⟩ := List.findIdx?_eq_some_iff_getElem.mp ha
      rw [List.getElem?_eq_getElem ha1]
      simpa using ha2
    · cases h
  · cases h
theorem ri_newa_W {t : ArrayType} (hC : ri_Ctx ALL STR sa G M D tyc A p s m args meth c) (hac : Jvm.Cond.arrayClass (newarray.typeOf t) ∈ ALL) (h : ri_newr G (ri_typeOf t) 2 st mem = some x) (hd : decode (ri_by M) pc = .ok (.newarray t, 2)) (hP : va_P D (ri_cls G) (ri_w ρ sa (ri_aty G) tyc ad mem) H) (hD : va_D A (ri_w ρ sa (ri_aty G) tyc ad mem)) (hS : va_S A s.heap H locs) (hok : ri_okM mem.length mem) (hst : ∀ t ∈ st, ri_ok mem.length t)
    (hc1 : cells + x.2.2.2.1 ≤ R.cells) (hs1 : slots + x.2.2.2.2.1 ≤ R.slots)
    (kk : ri_KK p l e R s m args below meth c cells slots Q G D tyc A ρ sa ad mem ls pc x) : W p l e R s m args below meth c H locs cells slots Q (F0 m pc ls (st.map (ri_cv ρ sa ad))) := by
  obtain ⟨⟨hx, hb, hml, hown, hin⟩, hM, hcl, hlk, hts, hK, hA, hstr⟩ := hC
  obtain ⟨v, r, a, rfl, ha, hi, hv0, hv1, rfl⟩ := ri_newr_s h
  have hty : newarray.typeOf t = ri_typeOf t := rfl
  obtain ⟨a0, hcell, hce9⟩ : ∃ a0 : vp_A, (∀ cA : ClassId, vp_cell cA a0 = arrV cA v.toNatClampNeg (fun _ => defaultValue (ri_typeOf t))) ∧ ∀ ad2, ri_ce ρ sa (ri_aty G) tyc ad2 (.inr (a, v.toNatClampNeg, ri_dft (ri_typeOf t), [])) = .inl (tyc a, a0) := by
    cases t with
    | long => exact ⟨(v.toNatClampNeg, .inr (.inl (fun _ => 0))), fun cA => rfl, fun ad2 => by simp only [ri_ce]; rw [ha]; rfl⟩
    | int => exact ⟨(v.toNatClampNeg, .inl (fun _ => 0)), fun cA => rfl, fun ad2 => by simp only [ri_ce]; rw [ha]; rfl⟩
    | boolean => exact ⟨(v.toNatClampNeg, .inl (fun _ => 0)), fun cA => rfl, fun ad2 => by simp only [ri_ce]; rw [ha]; rfl⟩
    | byte => exact ⟨(v.toNatClampNeg, .inl (fun _ => 0)), fun cA => rfl, fun ad2 => by simp only [ri_ce]; rw [ha]; rfl⟩
    | char => exact ⟨(v.toNatClampNeg, .inl (fun _ => 0)), fun cA => rfl, fun ad2 => by simp only [ri_ce]; rw [ha]; rfl⟩
    | short => exact ⟨(v.toNatClampNeg, .inl (fun _ => 0)), fun cA => rfl, fun ad2 => by simp only [ri_ce]; rw [ha]; rfl⟩
    | _ => cases hi
  have hbytes : v.toNatClampNeg * componentBytes (ri_typeOf t) ≤ 536870912 := Nat.le_trans (Nat.mul_le_mul hv1 (show componentBytes (ri_typeOf t) ≤ 8 by cases t <;> decide)) (by decide)
  refine va_newa hx hb (hts _ hac) hty hK hP hD hS hA hcell hv0 rfl hbytes hc1 hs1 hd (fun q cA H1 hK1 hP1 hD1 hS1 => ?_)
  have e1 := ri_unique hK ha hK1
  subst e1
  exact ri_newr_k hS1 hok (fun t ht => hst t (List.mem_cons_of_mem _ ht)) (fun k => by cases t <;> first | (intro e; cases e; done) | cases hi) hce9 hP1 hD1 kk
theorem ri_newq_W {a : Nat} {ty : FieldType} {C : String} (hC : ri_Ctx ALL STR sa G M D tyc A p s m args meth c) (hl1 : Jvm.Cond.classLink (ri_own M) idx C ∈ ALL) (hl2 : Jvm.Cond.arrayOver (.object C) ∈ ALL) (h : ri_newr G (.object C) 3 st mem = some x) (hd : decode (ri_by M) pc = .ok (.anewarray idx, 3)) (hP : va_P D (ri_cls G) (ri_w ρ sa (ri_aty G) tyc ad mem) H) (hD : va_D A (ri_w ρ sa (ri_aty G) tyc ad mem)) (hS : va_S A s.heap H locs) (hok : ri_okM mem.length mem) (hst : ∀ t ∈ st, ri_ok mem.length t)
    (hc1 : cells + x.2.2.2.1 ≤ R.cells) (hs1 : slots + x.2.2.2.2.1 ≤ R.slots)
    (kk : ri_KK p l e R s m args below meth c cells slots Q G D tyc A ρ sa ad mem ls pc x) : W p l e R s m args below meth c H locs cells slots Q (F0 m pc ls (st.map (ri_cv ρ sa ad))) := by
  obtain ⟨⟨hx, hb, hml, hown, hin⟩, hM, hcl, hlk, hts, hK, hA, hstr⟩ := hC
  obtain ⟨v, r, a, rfl, ha, hi, hv0, hv1, rfl⟩ := ri_newr_s h
  have hbytes : v.toNatClampNeg * 4 ≤ 536870912 := Nat.le_trans (Nat.mul_le_mul hv1 (Nat.le_refl 4)) (by decide)
  refine va_newq hx hb hown (hts _ hl1) (va_AO.of (hts _ hl2)) hK hP hD hS hA hv0 rfl hbytes hc1 hs1 hd (fun q cA H1 hK1 hP1 hD1 hS1 => ?_)
  have e1 := ri_unique hK ha hK1
  subst e1
  exact ri_newr_k hS1 hok (fun t ht => hst t (List.mem_cons_of_mem _ ht)) (fun k e => by cases e) (fun ad2 => ri_ce_ref ha) hP1 hD1 kk
set_option maxHeartbeats 2000000 in
theorem ri_ldc_W (hC : ri_Ctx ALL STR sa G M D tyc A p s m args meth c) (h : ri_ldc G M idx st mem = some x) (hd : decode (ri_by M) pc = .ok (.ldc idx, x.1)) (hP : va_P D (ri_cls G) (ri_w ρ sa (ri_aty G) tyc ad mem) H) (hD : va_D A (ri_w ρ sa (ri_aty G) tyc ad mem)) (hS : va_S A s.heap H locs) (hok : ri_okM mem.length mem) (hst : ∀ t ∈ st, ri_ok mem.length t)
    (kk : ri_KK p l e R s m args below meth c cells slots Q G D tyc A ρ sa ad mem ls pc x) : W p l e R s m args below meth c H locs cells slots Q (F0 m pc ls (st.map (ri_cv ρ sa ad))) := by
  obtain ⟨⟨hx, hb, hml, hown, hin⟩, hM, hcl, hlk, hts, hK, hA, hstr⟩ := hC
  unfold ri_ldc at h
  split at h
  · next a b tx hcp =>
    cases h
    have hlink := ri_cp_s hlk hM hcp
    have k1 := kk ad H locs ri_ag_rf hP hD hS hok (Nat.le_refl _) (fun z hz => by
      rcases List.mem_cons.mp hz with rfl | hz
      · rw [ri_ci_eq]; trivial
      · exact hst z hz)
    rw [List.map_cons, ri_ci_eq] at k1
    exact lv_ldc hx hb hown (hts _ hlink) hd k1
  · next a b tx hcp =>
    cases h
    have hlink := ri_cp_s hlk hM hcp
    have k1 := kk ad H locs ri_ag_rf hP hD hS hok (Nat.le_refl _) (fun z hz => by
      rcases List.mem_cons.mp hz with rfl | hz
      · trivial
      · exact hst z hz)
    exact va_ldcS hx hb hown (hstr _ hlink) hd k1
  · cases h
theorem ri_ldcwS {q : Nat} {rest : List Value} {own tx : String} (hexec : p.tables.exec = Jvm.exec) (hb : c.code = ri_by M) (hown : s.vm.findClass own = some m.cls) (hZ : vk_R own idx tx q s) (hdg : decode (ri_by M) pc = .ok (.ldc_w idx, 3))
    (k : W p l e R s m args below meth c H locs cells slots Q (F0 m (pc + 3) ls (.ref q :: rest))) : W p l e R s m args below meth c H locs cells slots Q (F0 m pc ls rest) := by
  intro T hT X
  obtain ⟨t, a1, b1⟩ := k T hT X
  exact ⟨t, X.ldcStringW hexec hown (text := tx) (a := q) hZ.1 hZ.2 (g := F0 m pc ls rest) rfl (by rw [hb]; exact hdg) t a1, b1⟩
set_option maxHeartbeats 2000000 in
theorem ri_ldcw_W (hC : ri_Ctx ALL STR sa G M D tyc A p s m args meth c) (h : ri_ldcw G M idx st mem = some x) (hd : decode (ri_by M) pc = .ok (.ldc_w idx, x.1)) (hP : va_P D (ri_cls G) (ri_w ρ sa (ri_aty G) tyc ad mem) H) (hD : va_D A (ri_w ρ sa (ri_aty G) tyc ad mem)) (hS : va_S A s.heap H locs) (hok : ri_okM mem.length mem) (hst : ∀ t ∈ st, ri_ok mem.length t)
    (kk : ri_KK p l e R s m args below meth c cells slots Q G D tyc A ρ sa ad mem ls pc x) : W p l e R s m args below meth c H locs cells slots Q (F0 m pc ls (st.map (ri_cv ρ sa ad))) := by
  obtain ⟨⟨hx, hb, hml, hown, hin⟩, hM, hcl, hlk, hts, hK, hA, hstr⟩ := hC
  unfold ri_ldcw at h
  split at h
  · next a b tx hcp =>
    cases h
    have hlink := ri_cp_s hlk hM hcp
    have k1 := kk ad H locs ri_ag_rf hP hD hS hok (Nat.le_refl _) (ri_all_cons0 trivial hst)
    exact ri_ldcwS hx hb hown (hstr _ hlink) hd k1
  · cases h
theorem ri_ldc2_W (hC : ri_Ctx ALL STR sa G M D tyc A p s m args meth c) (h : ri_ldc2 G M idx st mem = some x) (hd : decode (ri_by M) pc = .ok (.ldc2_w idx, x.1)) (hP : va_P D (ri_cls G) (ri_w ρ sa (ri_aty G) tyc ad mem) H) (hD : va_D A (ri_w ρ sa (ri_aty G) tyc ad mem)) (hS : va_S A s.heap H locs) (hok : ri_okM mem.length mem) (hst : ∀ t ∈ st, ri_ok mem.length t)
    (kk : ri_KK p l e R s m args below meth c cells slots Q G D tyc A ρ sa ad mem ls pc x) : W p l e R s m args below meth c H locs cells slots Q (F0 m pc ls (st.map (ri_cv ρ sa ad))) := by
  obtain ⟨⟨hx, hb, hml, hown, hin⟩, hM, hcl, hlk, hts, hK, hA, hstr⟩ := hC
  unfold ri_ldc2 at h
  split at h
  · next a b tx hcp =>
    cases h
    have hlink := ri_cp_s hlk hM hcp
    have k1 := kk ad H locs ri_ag_rf hP hD hS hok (Nat.le_refl _) (fun z hz => by
      rcases List.mem_cons.mp hz with rfl | hz
      · rw [ri_cl_eq]; trivial
      · exact hst z hz)
    rw [List.map_cons, ri_cl_eq] at k1
    exact lv_ldc2 hx hb hown (hts _ hlink) hd k1
  · cases h
theorem ri_P_ext {cl : List vw_C} {ws : va_W} {q a n : Nat} {cA : ClassId} {f g : Nat → Int32} (h : va_P D cl (ws.set q (a, .inl (cA, n, .inl f))) H) (e : ∀ j, j < n → f j = g j) : va_P D cl (ws.set q (a, .inl (cA, n, .inl g))) H := by
  intro k z hk
  have hc : vp_cell cA (n, .inl f) = vp_cell cA (n, .inl g) := by
    show arrV cA n (fun j => .int (f j)) = arrV cA n (fun j => .int (g j))
    unfold arrV
    have e1 : (Array.ofFn (n := n) fun j => Value.int (f j.val)) = Array.ofFn (n := n) fun j => Value.int (g j.val) := by
      congr 1
      funext j
      rw [e j.val j.isLt]
    rw [e1]
  by_cases hq : q = k
  · subst hq
    have hl : q < ws.length := by
      have := (List.getElem?_eq_some_iff.mp hk).1
      simpa using this
    rw [List.getElem?_set_self hl] at hk
    cases hk
    have h1 := h q (a, .inl (cA, n, .inl f)) (List.getElem?_set_self hl)
    show H[a]? = some (vp_cell cA (n, .inl g))
    rw [← hc]
    exact h1
  · refine h k z ?_
    rw [List.getElem?_set_ne hq] at hk ⊢
    exact hk
theorem ri_sum4 {r : List Jvm.Term} (h : r.length ≤ 4) : ((r.map (ri_cv ρ sa ad)).map fun v => v.category).sum ≤ 8 := by
  have key : ∀ r : List Jvm.Term, ((r.map (ri_cv ρ sa ad)).map fun v => v.category).sum ≤ 2 * r.length := by
    intro r
    induction r with
    | nil => simp
    | cons a r ih =>
      simp only [List.map_cons, List.sum_cons, List.length_cons]
      rcases lv_cat (ri_cv ρ sa ad a) with h1 | h1 <;> omega
  have := key r
  omega
theorem ri_acpy_W (hC : ri_Ctx ALL STR sa G M D tyc A p s m args meth c) (hlk : Jvm.Cond.methodLink (ri_own M) idx arraycopyName ∈ ALL ∧ Jvm.Cond.native arraycopyName ∈ ALL ∧ Jvm.Cond.static arraycopyName ∈ ALL ∧ Jvm.Cond.initialized "java/lang/System" ∈ ALL) (h : ri_acpy G st mem = some x) (hd : decode (ri_by M) pc = .ok (.invokestatic idx, x.1)) (hP : va_P D (ri_cls G) (ri_w ρ sa (ri_aty G) tyc ad mem) H) (hD : va_D A (ri_w ρ sa (ri_aty G) tyc ad mem)) (hS : va_S A s.heap H locs) (hok : ri_okM mem.length mem) (hst : ∀ t ∈ st, ri_ok mem.length t)
    (hls : ls.size = ri_mx M) (hR1 : 1 ≤ R.frames) (hR2 : 100 ≤ R.locals)
    (kk : ri_KK p l e R s m args below meth c cells slots Q G D tyc A ρ sa ad mem ls pc x) : W p l e R s m args below meth c H locs cells slots Q (F0 m pc ls (st.map (ri_cv ρ sa ad))) := by
  obtain ⟨⟨hx, hb, hml, hown, hin⟩, hM, hcl, -, hts, hK, hA, hstr⟩ := hC
  unfold ri_acpy at h
  split at h
  · next n dp k1 sp k0 r =>
    split at h
    · next t0 n0 d0 o0 t1 n1 d1 o1 hm0 hm1 =>
      split at h
      · next hk =>
        cases h
        obtain ⟨hty, rfl, rfl, rfl, rfl, hn0, rfl, hr⟩ := hk
        have hw0 := ri_w_get (ρ := ρ) (sa := sa) (aty := ri_aty G) (tyc := tyc) (ad := ad) hm0
        have hw1 := ri_w_get (ρ := ρ) (sa := sa) (aty := ri_aty G) (tyc := tyc) (ad := ad) hm1
        rw [ri_ce_int hty] at hw0 hw1
        have hsum := ri_sum4 (ρ := ρ) (sa := sa) (ad := ad) hr
        refine va_copyi (ty := .int) hx hb (hml.trans hls.symm) hown (hts _ hlk.1) (hts _ hlk.2.1) (hts _ hlk.2.2.1) (hts _ hlk.2.2.2) hK hP hD hS k0 k1 t1 t1 hw0 hw1 (ri_tys_get hty) (ri_tys_get hty) rfl (by decide) (by decide) hn0 (by show 0 + _ ≤ _; omega) (by show 0 + _ ≤ _; omega) (fun _ _ => rfl) hR1 (Nat.le_trans (Nat.add_le_add hsum (show nativeFrameWords "java/lang/System" "arraycopy" 5 + 11 ≤ 92 by decide)) hR2) hd (fun H1 locs1 hP1 hD1 hS1 => ?_)
        have e9 := ri_w_set (ρ := ρ) (sa := sa) (aty := ri_aty G) (tyc := tyc) (ad := ad) (mem := mem) (k := k1) (e := .inr (t1, n.toNatClampNeg, d0, o0))
        rw [ri_ce_int hty] at e9
        have hP2 := ri_P_ext (g := fun j => ri_gI (ri_cv ρ sa ad (ri_look d0 o0 j))) hP1 (fun j hj => by
          unfold va_cpy
          rw [if_pos ⟨Nat.zero_le _, by show j < 0 + _; omega⟩]
          show ri_gI (ri_cv ρ sa ad (ri_look d0 o0 (0 + (j - 0)))) = _
          rw [Nat.zero_add, Nat.sub_zero])
        have hD2 : va_D A ((ri_w ρ sa (ri_aty G) tyc ad mem).set k1 (ad k1, .inl (tyc t1, n.toNatClampNeg, .inl (fun j => ri_gI (ri_cv ρ sa ad (ri_look d0 o0 j)))))) := by
          exact va_D.set hD hw1
        rw [e9] at hP2 hD2
        have hokc := hok _ (List.mem_of_getElem? hm0)
        refine kk ad H1 locs1 ri_ag_rf hP2 hD2 hS1 ?_ ?_ ?_
        · show ri_okM (mem.set k1 _).length _
          rw [List.length_set]
          exact ri_okM_set hok hokc
        · show mem.length ≤ (mem.set k1 _).length
          rw [List.length_set]; exact Nat.le_refl _
        · intro z hz
          show ri_ok (mem.set k1 _).length z
          rw [List.length_set]
          exact hst z (List.mem_cons_of_mem _ (List.mem_cons_of_mem _ (List.mem_cons_of_mem _ (List.mem_cons_of_mem _ (List.mem_cons_of_mem _ hz)))))
      · cases h
    · cases h
  · cases h
end RIW1
end RIW
end
section
/-! RI: the run: forks, jumps, calls, answers, exceptions -/
section RIR
/-- what bounds tell -/
def ri_decB (k : Nat) (x y : Int × Int) : Option Bool := match k with
  | 0 => if x.2 < y.1 then some false else if y.2 < x.1 then some false else if x.1 = x.2 ∧ y.1 = y.2 ∧ x.1 = y.1 then some true else none
  | _ => if x.2 < y.1 then some true else if y.2 ≤ x.1 then some false else none
theorem ri_decB_s {k : Nat} {x y : Int × Int} {a b : Int32} {r : Bool} (hx : ri_B x a.toInt) (hy : ri_B y b.toInt) (h : ri_decB k x y = some r) : r = true ↔ ri_rel k a b := by
  obtain ⟨h1, h2⟩ := hx
  obtain ⟨h3, h4⟩ := hy
  cases k with
  | zero =>
    show _ ↔ a = b
    rw [← Int32.toInt_inj]
    simp only [ri_decB] at h
    split at h
    · cases h; exact ⟨fun z => (by cases z), fun z => by omega⟩
    · split at h
      · cases h; exact ⟨fun z => (by cases z), fun z => by omega⟩
      · split at h
        · cases h; exact ⟨fun _ => by omega, fun _ => rfl⟩
        · cases h
  | succ k =>
    show _ ↔ a < b
    rw [Int32.lt_iff_toInt_lt]
    simp only [ri_decB] at h
    split at h
    · cases h; exact ⟨fun _ => by omega, fun _ => rfl⟩
    · split at h
      · cases h; exact ⟨fun z => (by cases z), fun z => by omega⟩
      · cases h
/-- is it known already? -/
def ri_dec (cs : List ri_Cd) (k : Nat) (a b : Jvm.Term) : Option Bool := match a, b with
  | .int x, .int y => some (match k with
    | 0 => decide (x = y)
    | _ => decide (x < y))
  | _, _ => match cs.find? (fun q => q.1 == k && (ri_eqT q.2.1 a && ri_eqT q.2.2.1 b)) with
    | some q => some q.2.2.2
    | none => if ri_k a = 0 ∧ ri_k b = 0 then ri_decB k (ri_bd cs a) (ri_bd cs b) else none
theorem ri_dec_s {ρ : Nat → Int32} {cs : List ri_Cd} {k : Nat} {a b : Jvm.Term} {r : Bool} (hsat : ∀ q ∈ cs, ri_sat ρ q) (h : ri_dec cs k a b = some r) : r = true ↔ ri_rel k (ri_iv ρ a) (ri_iv ρ b) := by
  unfold ri_dec at h
  split at h
  · next x y =>
    cases h
    show _ ↔ ri_rel k x y
    unfold ri_rel
    split <;> simp
  · split at h
    · next q hq =>
      cases h
      have h1 := hsat q (List.mem_of_find?_eq_some hq)
      have h2 := List.find?_some hq
      simp only [Bool.and_eq_true, beq_iff_eq] at h2
      have e1 := ri_eqT_s _ _ h2.2.1
      have e2 := ri_eqT_s _ _ h2.2.2
      unfold ri_sat at h1
      rw [h2.1, e1, e2] at h1
      exact h1
    · split at h
      · next hk => exact ri_decB_s ((ri_bd_s hsat a).1 hk.1) ((ri_bd_s hsat b).1 hk.2) h
      · cases h
/-- a long that is an int's -/
def ri_i2 : Jvm.Term → Option Jvm.Term
  | .op1 .i2l a => if ri_k a = 0 then some a else none
  | .long c => if -2147483648 ≤ c.toInt ∧ c.toInt ≤ 2147483647 then some (ri_ci c.toInt32) else none
  | _ => none
theorem ri_i2_s {ρ : Nat → Int32} {t x : Jvm.Term} (h : ri_i2 t = some x) : (ri_il ρ t).toInt = (ri_iv ρ x).toInt := by
  unfold ri_i2 at h
  split at h
  · next a =>
    split at h
    · cases h; exact Int32.toInt_toInt64 _
    · cases h
  · next c =>
    split at h
    · next hc =>
      cases h
      rw [ri_ci_eq]
      show c.toInt = c.toInt32.toInt
      rw [Int64.toInt_toInt32, Int.bmod_eq_of_le (by omega) (by omega)]
    · cases h
  · cases h
/-- compares of longs that are ints', of constants, in one form -/
def ri_norm (q : ri_Cd) : ri_Cd := match q with
  | (k, .op2 .lcmp a b, .int z, v) => if z = 0 then (match ri_i2 a, ri_i2 b with
    | some x, some y => (k, x, y, v)
    | _, _ => q) else q
  | (k, .int z, .op2 .lcmp a b, v) => if z = 0 then (match ri_i2 a, ri_i2 b with
    | some x, some y => (k, y, x, v)
    | _, _ => q) else q
  | _ => q
def ri_norm2 (q : ri_Cd) : ri_Cd := match q with
  | (k, .int x, b, v) => match k with
    | 0 => (0, b, .int x, v)
    | _ => if x.toInt < 2147483647 then (1, b, ri_ci (x + 1), !v) else q
  | _ => q
theorem ri_norm_s {ρ : Nat → Int32} (q : ri_Cd) : ri_sat ρ (ri_norm q) ↔ ri_sat ρ q := by
  have e1 : (1 : Int32).toInt = 1 := by decide
  have e0 : (0 : Int32).toInt = 0 := by decide
  have em : (-1 : Int32).toInt = -1 := by decide
  have c0 : ∀ x y : Int64, lg_cmp x y = 0 ↔ x.toInt = y.toInt := fun x y => by
    rw [Int64.toInt_inj]
    unfold lg_cmp
    by_cases h1 : x > y
    · rw [if_pos h1]; exact ⟨fun h => absurd h (by decide), fun h => by rw [h] at h1; exact absurd h1 (Int64.lt_irrefl)⟩
    · rw [if_neg h1]
      by_cases h2 : x = y
      · rw [if_pos h2]; exact ⟨fun _ => h2, fun _ => rfl⟩
      · rw [if_neg h2]; exact ⟨fun h => absurd h (by decide), fun h => absurd h h2⟩
  have c1 : ∀ x y : Int64, lg_cmp x y < 0 ↔ x.toInt < y.toInt := fun x y => by
    unfold lg_cmp
    by_cases h1 : x > y
    · rw [if_pos h1]
      have h3 := Int64.lt_iff_toInt_lt.mp h1
      exact ⟨fun h => absurd h (by decide), fun h => by omega⟩
    · rw [if_neg h1]
      by_cases h2 : x = y
      · rw [if_pos h2]; exact ⟨fun h => absurd h (by decide), fun h => by rw [h2] at h; omega⟩
      · rw [if_neg h2]
        have h3 : ¬ y.toInt < x.toInt := fun z => h1 (Int64.lt_iff_toInt_lt.mpr z)
        have h4 : x.toInt ≠ y.toInt := fun z => h2 (Int64.toInt_inj.mp z)
        exact ⟨fun _ => by omega, fun _ => by decide⟩
  have c2 : ∀ x y : Int64, 0 < lg_cmp x y ↔ y.toInt < x.toInt := fun x y => by
    unfold lg_cmp
    by_cases h1 : x > y
    · rw [if_pos h1]
      have h3 := Int64.lt_iff_toInt_lt.mp h1
      exact ⟨fun _ => h3, fun _ => by decide⟩
    · rw [if_neg h1]
      have h3 : ¬ y.toInt < x.toInt := fun z => h1 (Int64.lt_iff_toInt_lt.mpr z)
      by_cases h2 : x = y
      · rw [if_pos h2]; exact ⟨fun h => absurd h (by decide), fun h => absurd h h3⟩
      · rw [if_neg h2]; exact ⟨fun h => absurd h (by decide), fun h => absurd h h3⟩
  unfold ri_norm
  split
  · next k a b z v =>
    split
    · next hz =>
      subst hz
      split
      · next x y hx hy =>
        have hx := ri_i2_s (ρ := ρ) hx
        have hy := ri_i2_s (ρ := ρ) hy
        unfold ri_sat
        cases k with
        | zero =>
          show (v = true ↔ ri_iv ρ x = ri_iv ρ y) ↔ (v = true ↔ lg_cmp (ri_il ρ a) (ri_il ρ b) = 0)
          rw [c0, ← Int32.toInt_inj, hx, hy]
        | succ k =>
          show (v = true ↔ ri_iv ρ x < ri_iv ρ y) ↔ (v = true ↔ lg_cmp (ri_il ρ a) (ri_il ρ b) < 0)
          rw [c1, Int32.lt_iff_toInt_lt, hx, hy]
      · exact Iff.rfl
    · exact Iff.rfl
  · next k z a b v =>
    split
    · next hz =>
      subst hz
      split
      · next x y hx hy =>
        have hx := ri_i2_s (ρ := ρ) hx
        have hy := ri_i2_s (ρ := ρ) hy
        unfold ri_sat
        cases k with
        | zero =>
          show (v = true ↔ ri_iv ρ y = ri_iv ρ x) ↔ (v = true ↔ 0 = lg_cmp (ri_il ρ a) (ri_il ρ b))
          rw [eq_comm (a := (0 : Int32)), c0, eq_comm (a := ri_iv ρ y), ← Int32.toInt_inj, hx, hy]
        | succ k =>
          show (v = true ↔ ri_iv ρ y < ri_iv ρ x) ↔ (v = true ↔ 0 < lg_cmp (ri_il ρ a) (ri_il ρ b))
          rw [c2, Int32.lt_iff_toInt_lt, hx, hy]
      · exact Iff.rfl
    · exact Iff.rfl
  · exact Iff.rfl
theorem ri_norm2_s {ρ : Nat → Int32} (q : ri_Cd) : ri_sat ρ (ri_norm2 q) ↔ ri_sat ρ q := by
  unfold ri_norm2
  split
  · next k x b v =>
    split
    · show (v = true ↔ ri_iv ρ b = x) ↔ (v = true ↔ x = ri_iv ρ b)
      rw [eq_comm (a := x)]
    · next hk =>
      split
      · next hx =>
        have hr : ri_sat ρ (k, .int x, b, v) ↔ (v = true ↔ x < ri_iv ρ b) := by
          cases k with
          | zero => exact absurd rfl hk
          | succ k => exact Iff.rfl
        have h1 := Int32.le_toInt x
        have h2 : (x + 1).toInt = x.toInt + 1 := by
          rw [Int32.toInt_add, show (1 : Int32).toInt = 1 from by decide]
          have : Int32.minValue.toInt = -2147483648 := by decide
          exact Int.bmod_eq_of_le (by omega) (by omega)
        rw [hr, ri_ci_eq]
        show ((!v) = true ↔ ri_iv ρ b < x + 1) ↔ _
        rw [Int32.lt_iff_toInt_lt, Int32.lt_iff_toInt_lt, h2]
        cases v <;> simp <;> omega
      · exact Iff.rfl
  · exact Iff.rfl
def ri_both (a b : Option ri_Rs) : Option ri_Rs := match a, b with
  | some (l1, c1, s1, o1), some (l2, c2, s2, o2) => some (l1 ++ l2, max c1 c2, max s1 s2, o1 ++ o2)
  | _, _ => none
/-- one result among another's -/
def ri_le (r1 r : ri_Rs) : Prop := (∀ x ∈ r1.1, x ∈ r.1) ∧ r1.2.1 ≤ r.2.1 ∧ r1.2.2.1 ≤ r.2.2.1 ∧ ∀ o ∈ r1.2.2.2, o ∈ r.2.2.2
theorem ri_both_s {a b : Option ri_Rs} {r : ri_Rs} (h : ri_both a b = some r) : ∃ ra rb, a = some ra ∧ b = some rb ∧ ri_le ra r ∧ ri_le rb r := by
  unfold ri_both at h
  split at h
  · next l1 c1 s1 o1 l2 c2 s2 o2 =>
    cases h
    exact ⟨_, _, rfl, rfl, ⟨fun x hx => List.mem_append_left _ hx, Nat.le_max_left _ _, Nat.le_max_left _ _, fun x hx => List.mem_append_left _ hx⟩, ⟨fun x hx => List.mem_append_right _ hx, Nat.le_max_right _ _, Nat.le_max_right _ _, fun x hx => List.mem_append_right _ hx⟩⟩
  · cases h
def ri_seq (k : ri_Lf → Option ri_Rs) : List ri_Lf → Option ri_Rs
  | [] => some ([], 0, 0, [])
  | x :: l => ri_both (k x) (ri_seq k l)
theorem ri_le_tr {a b c : ri_Rs} (h1 : ri_le a b) (h2 : ri_le b c) : ri_le a c := ⟨fun x hx => h2.1 x (h1.1 x hx), Nat.le_trans h1.2.1 h2.2.1, Nat.le_trans h1.2.2.1 h2.2.2.1, fun o ho => h2.2.2.2 o (h1.2.2.2 o ho)⟩
theorem ri_seq_s {k : ri_Lf → Option ri_Rs} : ∀ (l : List ri_Lf) {r : ri_Rs}, ri_seq k l = some r → ∀ x ∈ l, ∃ rx, k x = some rx ∧ ri_le rx r
  | [], _, _, x, hx => by cases hx
  | y :: l, r, h, x, hx => by
    obtain ⟨ra, rb, h1, h2, h3, h4⟩ := ri_both_s (show ri_both (k y) (ri_seq k l) = some r from h)
    rcases List.mem_cons.mp hx with rfl | hx
    · exact ⟨ra, h1, h3⟩
    · obtain ⟨rx, g1, g2⟩ := ri_seq_s l h2 x hx
      exact ⟨rx, g1, ri_le_tr g2 h4⟩
/-- a fork: (sort, a, b, v): T where (a sort b) is v, else F -/
def ri_br0 (cs : List ri_Cd) (q : ri_Cd) (T F : List ri_Cd → Option ri_Rs) : Option ri_Rs := match ri_dec cs q.1 q.2.1 q.2.2.1 with
  | some r => if r = q.2.2.2 then T cs else F cs
  | none => ri_both (T (q :: cs)) (F ((q.1, q.2.1, q.2.2.1, !q.2.2.2) :: cs))
/-- of constants at once; else in one form -/
def ri_br (cs : List ri_Cd) (q : ri_Cd) (T F : List ri_Cd → Option ri_Rs) : Option ri_Rs := match q.2.1, q.2.2.1 with
  | .int _, .int _ => ri_br0 cs q T F
  | _, _ => ri_br0 cs (ri_norm2 (ri_norm q)) T F
theorem ri_br0_s {ρ : Nat → Int32} {cs : List ri_Cd} {q : ri_Cd} {T F : List ri_Cd → Option ri_Rs} {r : ri_Rs} (hsat : ∀ q ∈ cs, ri_sat ρ q) (h : ri_br0 cs q T F = some r) :
    (ri_sat ρ q ∧ ∃ cs' r1, T cs' = some r1 ∧ (∀ q ∈ cs', ri_sat ρ q) ∧ ri_le r1 r) ∨ (¬ ri_sat ρ q ∧ ∃ cs' r1, F cs' = some r1 ∧ (∀ q ∈ cs', ri_sat ρ q) ∧ ri_le r1 r) := by
  unfold ri_br0 at h
  have rf : ri_le r r := ⟨fun _ h => h, Nat.le_refl _, Nat.le_refl _, fun _ h => h⟩
  split at h
  · next v hv =>
    have h1 := ri_dec_s hsat hv
    split at h
    · next e => exact Or.inl ⟨by unfold ri_sat; rw [← e]; exact h1, cs, r, h, hsat, rf⟩
    · next e =>
      refine Or.inr ⟨fun hs => e ?_, cs, r, h, hsat, rf⟩
      unfold ri_sat at hs
      rw [Bool.eq_iff_iff]
      exact h1.trans hs.symm
  · obtain ⟨ra, rb, h1, h2, h3, h4⟩ := ri_both_s h
    by_cases hq : ri_sat ρ q
    · exact Or.inl ⟨hq, _, ra, h1, fun z hz => by
        rcases List.mem_cons.mp hz with rfl | hz
        · exact hq
        · exact hsat z hz, h3⟩
    · refine Or.inr ⟨hq, _, rb, h2, fun z hz => ?_, h4⟩
      rcases List.mem_cons.mp hz with rfl | hz
      · unfold ri_sat at hq ⊢
        cases hv : q.2.2.2 <;> simp [hv] at hq ⊢ <;> exact hq
      · exact hsat z hz
theorem ri_br_s {ρ : Nat → Int32} {cs : List ri_Cd} {q : ri_Cd} {T F : List ri_Cd → Option ri_Rs} {r : ri_Rs} (hsat : ∀ q ∈ cs, ri_sat ρ q) (h : ri_br cs q T F = some r) :
    (ri_sat ρ q ∧ ∃ cs' r1, T cs' = some r1 ∧ (∀ q ∈ cs', ri_sat ρ q) ∧ ri_le r1 r) ∨ (¬ ri_sat ρ q ∧ ∃ cs' r1, F cs' = some r1 ∧ (∀ q ∈ cs', ri_sat ρ q) ∧ ri_le r1 r) := by
  unfold ri_br at h
  split at h
  · exact ri_br0_s hsat h
  · have h1 := ri_br0_s hsat h
    rw [ri_norm2_s, ri_norm_s] at h1
    exact h1
/-- each value of an int between bounds -/
def ri_vals (x : Jvm.Term) (K : Jvm.Term → List ri_Cd → Option ri_Rs) : Nat → Int → List ri_Cd → Option ri_Rs
  | 0, _, _ => some ([], 0, 0, [])
  | n + 1, lo, cs => ri_br cs (0, x, ri_ci (Int32.ofInt lo), true) (fun cs' => K (ri_ci (Int32.ofInt lo)) cs') (fun cs' => ri_vals x K n (lo + 1) cs')
theorem ri_vals_s {ρ : Nat → Int32} {x : Jvm.Term} {K : Jvm.Term → List ri_Cd → Option ri_Rs} : ∀ (n : Nat) (lo : Int) (cs : List ri_Cd) {r : ri_Rs}, (∀ q ∈ cs, ri_sat ρ q) → ri_vals x K n lo cs = some r → lo ≤ (ri_iv ρ x).toInt → (ri_iv ρ x).toInt < lo + (n : Int) →
    ∃ (v : Int32) (cs' : List ri_Cd) (r1 : ri_Rs), ri_iv ρ x = v ∧ K (.int v) cs' = some r1 ∧ (∀ q ∈ cs', ri_sat ρ q) ∧ ri_le r1 r
  | 0, lo, cs, r, hs, h, h1, h2 => absurd h2 (by omega)
  | n + 1, lo, cs, r, hs, h, h1, h2 => by
    unfold ri_vals at h
    rw [ri_ci_eq] at h
    have i1 : Int32.minValue.toInt ≤ (ri_iv ρ x).toInt := Int32.le_toInt _
    rcases ri_br_s hs h with ⟨g1, cs', r1, g2, g3, g4⟩ | ⟨g1, cs', r1, g2, g3, g4⟩
    · exact ⟨_, cs', r1, g1.mp rfl, g2, g3, g4⟩
    · have hne : (ri_iv ρ x).toInt ≠ lo := fun z => g1 ⟨fun _ => by
        show ri_iv ρ x = Int32.ofInt lo
        rw [← z, Int32.ofInt_toInt], fun _ => rfl⟩
      obtain ⟨v, cs2, r2, k1, k2, k3, k4⟩ := ri_vals_s n (lo + 1) cs' g3 g2 (by omega) (by omega)
      exact ⟨v, cs2, r2, k1, k2, k3, ri_le_tr k4 g4⟩
/-- what an instruction wants known -/
def ri_foc (i : Instr) (st : List Jvm.Term) : Option (List Jvm.Term × Jvm.Term × List Jvm.Term) := match i, st with
  | .iaload, x :: r => some ([], x, r)
  | .aaload, x :: r => some ([], x, r)
  | .laload, x :: r => some ([], x, r)
  | .iastore, t :: x :: r => some ([t], x, r)
  | .lastore, t :: x :: r => some ([t], x, r)
  | _, _ => none
theorem ri_foc_s {i : Instr} {st a r : List Jvm.Term} {x : Jvm.Term} (h : ri_foc i st = some (a, x, r)) : st = a ++ x :: r := by
  unfold ri_foc at h
  split at h <;> first | (cases h; rfl) | cases h
def ri_cst : Jvm.Term → Bool
  | .int _ => true
  | _ => false
def ri_tg (pc : Nat) (off : Int) : Option Nat := match (pc : Int) + off with
  | .ofNat n => some n
  | .negSucc _ => none
theorem ri_tg_s {pc t : Nat} {off : Int} (h : ri_tg pc off = some t) : (pc : Int) + off = (t : Int) := by
  unfold ri_tg at h
  split at h
  · next n e => cases h; rw [e]; rfl
  · cases h
def ri_cnd (c : ClassFile.Cond) (a b : Jvm.Term) : ri_Cd := match c with
  | .eq => (0, a, b, true)
  | .ne => (0, a, b, false)
  | .lt => (1, a, b, true)
  | .ge => (1, a, b, false)
  | .gt => (1, b, a, true)
  | .le => (1, b, a, false)
/-- a switch, as a row of forks -/
def ri_chain (x : Jvm.Term) (pc : Nat) (T : Nat → List ri_Cd → Option ri_Rs) (dflt : Int) : List (Int × Int) → List ri_Cd → Option ri_Rs
  | [], cs => match ri_tg pc dflt with
    | some t => T t cs
    | none => none
  | (v, off) :: l, cs => ri_br cs (0, x, ri_ci (Int32.ofInt v), true) (fun cs' => match ri_tg pc off with
    | some t => T t cs'
    | none => none) (fun cs' => ri_chain x pc T dflt l cs')
abbrev ri_K : Type := Nat → List (Nat × Jvm.Term) → List Jvm.Term → List ri_Cd → ri_Me → Option ri_Rs
abbrev ri_Call : Type := Nat → List Jvm.Term → List ri_Cd → ri_Me → Option ri_Rs
/-- more cells, more obligations ahead of what follows -/
def ri_more (c s : Nat) (o : List ri_Ob) (r : Option ri_Rs) : Option ri_Rs := match r with
  | some (l2, c2, s2, o2) => some (l2, c + c2, s + s2, o ++ o2)
  | none => none
theorem ri_more_s {c s : Nat} {o : List ri_Ob} {r : Option ri_Rs} {x : ri_Rs} (h : ri_more c s o r = some x) : ∃ r2, r = some r2 ∧ x.1 = r2.1 ∧ x.2.1 = c + r2.2.1 ∧ x.2.2.1 = s + r2.2.2.1 ∧ x.2.2.2 = o ++ r2.2.2.2 := by
  unfold ri_more at h
  split at h
  · cases h; exact ⟨_, rfl, rfl, rfl, rfl, rfl⟩
  · cases h
/-- a local less -/
def ri_ers (lv : List (Nat × Jvm.Term)) (i : Nat) : List (Nat × Jvm.Term) := lv.filter (fun q => !(q.1 == i) && !(q.1 + 1 == i && ri_wide q.2))
/-- who catches it -/
def ri_find (G : ri_Tb) (M : ri_Mt) (pc : Nat) (E : String) : List (Nat × Nat × Nat × Nat) → Option (Option Nat)
  | [] => some none
  | (a, b, h, ct) :: l => if a ≤ pc ∧ pc < b then (match ri_cp G M ct with
    | some (5, _, _, nm) => match (ri_nc G).find? (fun q => q.1 == E && q.2.1 == nm) with
      | some q => if ct = 0 then none else if q.2.2 = true then some (some h) else ri_find G M pc E l
      | none => none
    | _ => none) else ri_find G M pc E l
/-- at a handler: the exception goes into a local and is forgotten -/
def ri_catch (M : ri_Mt) (K : ri_K) (hp : Nat) (lv : List (Nat × Jvm.Term)) (cs : List ri_Cd) (mem : ri_Me) : Option ri_Rs := match (ri_co M)[hp]? with
  | some (some (.astore k, 2)) => if k < ri_mx M then K (hp + 2) (ri_ers lv k) [] cs mem else none
  | some (some (.astore_n k, 1)) => if (k : Nat) < ri_mx M then K (hp + 1) (ri_ers lv k) [] cs mem else none
  | _ => none
/-- behind a call -/
def ri_after (G : ri_Tb) (M : ri_Mt) (K : ri_K) (pc : Nat) (lv : List (Nat × Jvm.Term)) (rest : List Jvm.Term) (x : ri_Lf) : Option ri_Rs := match x.2.2 with
  | .inl none => K (pc + 3) lv rest x.1 x.2.1
  | .inl (some t) => K (pc + 3) lv (t :: rest) x.1 x.2.1
  | .inr E => match ri_find G M pc E (ri_hh M) with
    | some none => some ([(x.1, x.2.1, .inr E)], 0, 0, [])
    | some (some hp) => ri_catch M K hp lv x.1 x.2.1
    | none => none
/-- a receiver of that class -/
def ri_recv (G : ri_Tb) (cls : String) (mem : ri_Me) : List Jvm.Term → Bool
  | .index k :: _ => match mem[k]? with
    | some (.inl (ci, _)) => match (ri_cls G)[ci]? with
      | some r => r.1 == cls
      | none => false
    | _ => false
  | _ => false
def ri_nn (sort n : Nat) : Nat := if sort = 1 then n else n + 1
/-- a call: sort 0 of an object, 1 static, 2 a constructor -/
def ri_inv (G : ri_Tb) (call : ri_Call) (M : ri_Mt) (K : ri_K) (sort pc idx : Nat) (lv : List (Nat × Jvm.Term)) (st : List Jvm.Term) (cs : List ri_Cd) (mem : ri_Me) : Option ri_Rs := match ri_cp G M idx with
  | some (kd, mi, n, _) =>
    if kd = 20 + sort ∨ kd = 30 + sort then (match (ri_mts G)[mi]? with
      | some M' =>
        if (kd = 21 ∨ (ri_hh M').isEmpty = true) ∧ ri_nn sort n ≤ st.length ∧ (st.drop (ri_nn sort n)).length ≤ 4 ∧ (sort = 1 ∨ ri_recv G (ri_nm M').cls mem (st.take (ri_nn sort n)).reverse = true) then (match call mi (st.take (ri_nn sort n)).reverse cs mem with
          | some (L, mc, ms, ob) => ri_more mc ms ob (ri_seq (ri_after G M K pc lv (st.drop (ri_nn sort n))) L)
          | none => none) else none
      | none => none)
    else if kd = 7 then (match st with
      | .index _ :: r => if sort = 2 ∧ r.length ≤ 4 then K (pc + 3) lv r cs mem else none
      | _ => none)
    else if kd = 10 then (match st with
      | y :: x :: r => if sort = 1 ∧ ri_k x = 0 ∧ ri_k y = 0 ∧ r.length ≤ 4 then ri_br cs (1, x, y, true) (fun cs' => K (pc + 3) lv (y :: r) cs' mem) (fun cs' => K (pc + 3) lv (x :: r) cs' mem) else none
      | _ => none)
    else if kd = 11 then (match st with
      | y :: x :: r => if sort = 1 ∧ ri_k x = 0 ∧ ri_k y = 0 ∧ r.length ≤ 4 then ri_br cs (1, y, x, true) (fun cs' => K (pc + 3) lv (y :: r) cs' mem) (fun cs' => K (pc + 3) lv (x :: r) cs' mem) else none
      | _ => none)
    else none
  | none => none
/-- new X(text), thrown -/
def ri_thr (G : ri_Tb) (M : ri_Mt) (pc ik : Nat) (st : List Jvm.Term) (cs : List ri_Cd) (mem : ri_Me) : Option ri_Rs := match ri_cp G M ik, (ri_co M)[pc + 3]?, (ri_co M)[pc + 4]? with
  | some (5, _, _, E), some (some (.dup, 1)), some (some (.ldc is, 2)) => match (ri_co M)[pc + 6]?, (ri_co M)[pc + 9]? with
    | some (some (.invokespecial ic, 3)), some (some (.athrow, 1)) => match ri_cp G M is, ri_cp G M ic with
      | some (9, _, _, _), some (kq, _, _, E2) => if (kq = 13 ∨ kq = 15) ∧ E2 = E ∧ st.length ≤ 4 ∧ (ri_hh M).isEmpty = true then some ([(cs, mem, .inr E)], 1, 6, []) else none
      | _, _ => none
    | _, _ => none
  | some (5, _, _, E), some (some (.dup, 1)), some (some (.ldc_w is, 3)) => match (ri_co M)[pc + 7]?, (ri_co M)[pc + 10]? with
    | some (some (.invokespecial ic, 3)), some (some (.athrow, 1)) => match ri_cp G M is, ri_cp G M ic with
      | some (9, _, _, _), some (kq, _, _, E2) => if (kq = 13 ∨ kq = 15) ∧ E2 = E ∧ st.length ≤ 4 ∧ (ri_hh M).isEmpty = true then some ([(cs, mem, .inr E)], 1, 6, []) else none
      | _, _ => none
    | _, _ => none
  | _, _, _ => none
def ri_ans (M : ri_Mt) (st : List Jvm.Term) (cs : List ri_Cd) (mem : ri_Me) (ok : Jvm.Term → Option FieldType → Bool) : Option ri_Rs := match st with
  | [t] => if ok t (ri_rt M) = true then some ([(cs, mem, .inl (some t))], 0, 0, []) else none
  | _ => none
def ri_okI (t : Jvm.Term) : Option FieldType → Bool
  | some .int => ri_k t == 0
  | some .boolean => ri_fit .boolean t
  | _ => false
def ri_okA (t : Jvm.Term) : Option FieldType → Bool
  | some (.object _) => ri_k t == 2 || ri_k t == 3
  | some (.array _) => ri_k t == 2 || ri_k t == 3
  | _ => false
def ri_okD (t : Jvm.Term) : Option FieldType → Bool
  | some .double => ri_k t == 4
  | _ => false
def ri_okF (t : Jvm.Term) : Option FieldType → Bool
  | some .float => ri_k t == 5
  | _ => false
def ri_ctl (G : ri_Tb) (call : ri_Call) (M : ri_Mt) (K : ri_K) (pc : Nat) (i : Instr) (len : Nat) (lv : List (Nat × Jvm.Term)) (st : List Jvm.Term) (cs : List ri_Cd) (mem : ri_Me) : Option ri_Rs := match i with
  | .goto off => match ri_tg pc off with
    | some t => if len = 3 then K t lv st cs mem else none
    | none => none
  | .ifCond c off => match st, ri_tg pc off with
    | a :: r, some t => if ri_k a = 0 ∧ len = 3 then ri_br cs (ri_cnd c a (.int 0)) (fun cs' => K t lv r cs' mem) (fun cs' => K (pc + 3) lv r cs' mem) else none
    | _, _ => none
  | .if_icmp c off => match st, ri_tg pc off with
    | b :: a :: r, some t => if ri_k a = 0 ∧ ri_k b = 0 ∧ len = 3 then ri_br cs (ri_cnd c a b) (fun cs' => K t lv r cs' mem) (fun cs' => K (pc + 3) lv r cs' mem) else none
    | _, _ => none
  | .ifnull off => match st, ri_tg pc off with
    | a :: r, some t => if len = 3 then (if ri_k a = 3 then K t lv r cs mem else if ri_k a = 2 then K (pc + 3) lv r cs mem else none) else none
    | _, _ => none
  | .ifnonnull off => match st, ri_tg pc off with
    | a :: r, some t => if len = 3 then (if ri_k a = 2 then K t lv r cs mem else if ri_k a = 3 then K (pc + 3) lv r cs mem else none) else none
    | _, _ => none
  | .tableswitch d lo hi offs => match st with
    | x :: r => if ri_k x = 0 ∧ hi = lo + (offs.size : Int) - 1 ∧ -2147483648 ≤ lo ∧ hi < 2147483648 then ri_chain x pc (fun t cs' => K t lv r cs' mem) d (offs.toList.mapIdx (fun j o => (lo + (j : Int), o))) cs else none
    | _ => none
  | .ireturn => if len = 1 then ri_ans M st cs mem ri_okI else none
  | .areturn => if len = 1 then ri_ans M st cs mem ri_okA else none
  | .dreturn => if len = 1 then ri_ans M st cs mem ri_okD else none
  | .freturn => if len = 1 then ri_ans M st cs mem ri_okF else none
  | .return_ => match st, ri_rt M with
    | [], none => if len = 1 then some ([(cs, mem, .inl none)], 0, 0, []) else none
    | _, _ => none
  | .new ik => if len = 3 then ri_thr G M pc ik st cs mem else none
  | .invokevirtual idx => if len = 3 then ri_inv G call M K 0 pc idx lv st cs mem else none
  | .invokestatic idx => if len = 3 then ri_inv G call M K 1 pc idx lv st cs mem else none
  | .invokespecial idx => if len = 3 then ri_inv G call M K 2 pc idx lv st cs mem else none
  | _ => none
/-- one step, and what follows -/
def ri_one (G : ri_Tb) (call : ri_Call) (M : ri_Mt) (K : ri_K) (pc : Nat) (lv : List (Nat × Jvm.Term)) (st : List Jvm.Term) (cs : List ri_Cd) (mem : ri_Me) : Option ri_Rs := match (ri_co M)[pc]? with
  | some (some (i, len)) => match ri_pure (ri_mx M) i lv st with
    | some (len', lv', st') => if len' = len then K (pc + len) lv' st' cs mem else none
    | none => match ri_heap G M cs i st mem with
      | some x => if x.1 = len then ri_more x.2.2.2.1 x.2.2.2.2.1 x.2.2.2.2.2 (K (pc + len) lv x.2.1 cs x.2.2.1) else none
      | none => match ri_foc i st with
        | some (a, t, r) => if ri_k t = 0 ∧ ri_cst t = false ∧ (ri_bd cs t).2 < (ri_bd cs t).1 + 700 then ri_vals t (fun y cs' => K pc lv (a ++ y :: r) cs' mem) ((ri_bd cs t).2 - (ri_bd cs t).1 + 1).toNat (ri_bd cs t).1 cs else none
        | none => ri_ctl G call M K pc i len lv st cs mem
  | _ => none
/-- as many steps; then B -/
noncomputable def ri_runB (G : ri_Tb) (call : ri_Call) (M : ri_Mt) (B : ri_K) (f : Nat) : ri_K := Nat.rec (motive := fun _ => ri_K) B (fun _ K pc lv st cs mem => ri_one G call M K pc lv st cs mem) f
abbrev ri_B0 : ri_K := fun _ _ _ _ _ => none
noncomputable abbrev ri_run (G : ri_Tb) (call : ri_Call) (M : ri_Mt) (f : Nat) : ri_K := ri_runB G call M ri_B0 f
theorem ri_runB_S {G : ri_Tb} {call : ri_Call} {M : ri_Mt} {B : ri_K} {f pc : Nat} {lv : List (Nat × Jvm.Term)} {st : List Jvm.Term} {cs : List ri_Cd} {mem : ri_Me} : ri_runB G call M B (f + 1) pc lv st cs mem = ri_one G call M (ri_runB G call M B f) pc lv st cs mem := rfl
/-- two lists, two cells, two worlds alike -/
def ri_eqL : List Jvm.Term → List Jvm.Term → Bool
  | [], [] => true
  | a :: l, b :: r => ri_eqT a b && ri_eqL l r
  | _, _ => false
def ri_eqP : List (Nat × Jvm.Term) → List (Nat × Jvm.Term) → Bool
  | [], [] => true
  | a :: l, b :: r => a.1 == b.1 && (ri_eqT a.2 b.2 && ri_eqP l r)
  | _, _ => false
def ri_eqC : ri_Ce → ri_Ce → Bool
  | .inl (c, f), .inl (c2, f2) => c == c2 && ri_eqL f f2
  | .inr (t, n, d, o), .inr (t2, n2, d2, o2) => t == t2 && (n == n2 && (ri_eqT d d2 && ri_eqP o o2))
  | _, _ => false
def ri_eqM : ri_Me → ri_Me → Bool
  | [], [] => true
  | a :: l, b :: r => ri_eqC a b && ri_eqM l r
  | _, _ => false
theorem ri_eqL_s : ∀ (a b : List Jvm.Term), ri_eqL a b = true → a = b
  | [], [], _ => rfl
  | a :: l, b :: r, h => by
    simp only [ri_eqL, Bool.and_eq_true] at h
    rw [ri_eqT_s _ _ h.1, ri_eqL_s l r h.2]
  | [], _ :: _, h => by cases h
  | _ :: _, [], h => by cases h
theorem ri_eqP_s : ∀ (a b : List (Nat × Jvm.Term)), ri_eqP a b = true → a = b
  | [], [], _ => rfl
  | a :: l, b :: r, h => by
    simp only [ri_eqP, Bool.and_eq_true, beq_iff_eq] at h
    rw [Prod.ext h.1 (ri_eqT_s _ _ h.2.1), ri_eqP_s l r h.2.2]
  | [], _ :: _, h => by cases h
  | _ :: _, [], h => by cases h
theorem ri_eqC_s (a b : ri_Ce) (h : ri_eqC a b = true) : a = b := by
  unfold ri_eqC at h
  split at h
  · simp only [Bool.and_eq_true, beq_iff_eq] at h
    rw [h.1, ri_eqL_s _ _ h.2]
  · simp only [Bool.and_eq_true, beq_iff_eq] at h
    rw [h.1, h.2.1, ri_eqT_s _ _ h.2.2.1, ri_eqP_s _ _ h.2.2.2]
  · cases h
theorem ri_eqM_s : ∀ (a b : ri_Me), ri_eqM a b = true → a = b
  | [], [], _ => rfl
  | a :: l, b :: r, h => by
    simp only [ri_eqM, Bool.and_eq_true] at h
    rw [ri_eqC_s _ _ h.1, ri_eqM_s l r h.2]
  | [], _ :: _, h => by cases h
  | _ :: _, [], h => by cases h
/-- stop at this very place -/
def ri_stop (pc0 : Nat) (lv0 : List (Nat × Jvm.Term)) (mem0 : ri_Me) (r : ri_Rs) : ri_K := fun pc lv st cs mem => if (pc == pc0 && (ri_eqP lv lv0 && (st.isEmpty && (cs.isEmpty && ri_eqM mem mem0)))) = true then some r else none
theorem ri_stop_s {pc0 pc : Nat} {lv0 lv : List (Nat × Jvm.Term)} {mem0 mem : ri_Me} {r rs : ri_Rs} {st : List Jvm.Term} {cs : List ri_Cd} (h : ri_stop pc0 lv0 mem0 r pc lv st cs mem = some rs) : pc = pc0 ∧ lv = lv0 ∧ st = [] ∧ cs = [] ∧ mem = mem0 ∧ rs = r := by
  unfold ri_stop at h
  split at h
  · next hk =>
    cases h
    simp only [Bool.and_eq_true, beq_iff_eq] at hk
    exact ⟨hk.1, ri_eqP_s _ _ hk.2.1, List.isEmpty_iff.mp hk.2.2.1, List.isEmpty_iff.mp hk.2.2.2.1, ri_eqM_s _ _ hk.2.2.2.2, rfl⟩
  · cases h
/-- the locals with which a method begins -/
def ri_args : Nat → List Jvm.Term → List (Nat × Jvm.Term)
  | _, [] => []
  | i, t :: ts => (i, t) :: ri_args (if ri_wide t = true then i + 2 else i + 1) ts
noncomputable def ri_call (G : ri_Tb) (fuel d : Nat) : ri_Call := Nat.rec (motive := fun _ => ri_Call) (fun _ _ _ _ => none) (fun _ C mi args cs mem => match (ri_mts G)[mi]? with
    | some M => if ri_lw M = false ∧ (args.map (fun t => if ri_wide t = true then 2 else 1)).sum ≤ ri_mx M then ri_run G C M fuel 0 (ri_args 0 args) [] cs mem else none
    | none => none) d
theorem ri_call_0 {G : ri_Tb} {fuel mi : Nat} {args : List Jvm.Term} {cs : List ri_Cd} {mem : ri_Me} : ri_call G fuel 0 mi args cs mem = none := rfl
theorem ri_call_S {G : ri_Tb} {fuel d mi : Nat} {args : List Jvm.Term} {cs : List ri_Cd} {mem : ri_Me} : ri_call G fuel (d + 1) mi args cs mem = (match (ri_mts G)[mi]? with
    | some M => if ri_lw M = false ∧ (args.map (fun t => if ri_wide t = true then 2 else 1)).sum ≤ ri_mx M then ri_run G (ri_call G fuel d) M fuel 0 (ri_args 0 args) [] cs mem else none
    | none => none) := rfl
end RIR
end
section
/-! RI: the run is sound -/
section RIS
def ri_warm : Jvm.Cond → Bool
  | .fieldLinkNest _ _ _ _ _ _ => true
  | .methodLinkNest _ _ _ _ => true
  | .castable _ _ => true
  | .declares _ => true
  | .arrayOver (.object _) => true
  | w => goodWord w
theorem ri_warm_s {w : Jvm.Cond} {s U : State} (hw : ri_warm w = true) (hW : s.WarmedH U.vm) (h : ∀ a : Array Value, w.before a s = true) : ∀ a : Array Value, w.before a U = true := by
  intro a
  by_cases hg : goodWord w = true
  · exact word_at hW (good_of_word hg) (h #[])
  · unfold ri_warm at hw
    split at hw
    · exact va_Nw.use rfl (va_Nw.warmF hW (h #[]))
    · exact va_Nw.use rfl (va_Nw.warmM hW (h #[]))
    · exact va_Nw.use rfl (va_Nw.warmC hW (h #[]))
    · exact va_Nw.use rfl (va_Nw.warmD hW (h #[]))
    · exact va_AO.use (va_AO.moved hW.alike (va_AO.of (h #[])))
    · exact absurd hw hg
/-- what holds of the tables at a state -/
def ri_St (ALL : List Jvm.Cond) (STR : List (String × Nat × String)) (G : ri_Tb) (D : va_G) (tyc : Nat → ClassId) (sa : String → Nat → Nat) (A : Nat → Prop) (U : State) : Prop :=
  (∀ w ∈ ALL, ∀ a : Array Value, w.before a U = true) ∧ va_K D (ri_cls G) (ri_tys (ri_aty G) tyc) U ∧ (∀ q ∈ STR, vk_R q.1 q.2.1 q.2.2 (sa q.1 q.2.1) U) ∧ vx_Zq Bundle.tN "UNASSIGNED_STACK" Bundle.steD A U U.heap ∧ vx_Zq Bundle.tN "SUPPRESSED_SENTINEL" Bundle.listD A U U.heap ∧ (∀ q ∈ ri_nc G, q.2.2 = false → va_Nc q.1 q.2.1 U)
theorem ri_St_go {ALL : List Jvm.Cond} {STR : List (String × Nat × String)} {G : ri_Tb} {D : va_G} {tyc : Nat → ClassId} {sa : String → Nat → Nat} {A B : Nat → Prop} {s U : State} (hwm : ∀ w ∈ ALL, ri_warm w = true) (h : ri_St ALL STR G D tyc sa A s) (hW : s.WarmedH U.vm)
    (hk : ∀ q : Nat, q < s.heap.size → ¬ A q → U.heap[q]? = s.heap[q]?) (hAB : ∀ q, B q → A q) : ri_St ALL STR G D tyc sa B U :=
  ⟨fun w hw => ri_warm_s (hwm w hw) hW (h.1 w hw), va_K.moved hW.alike h.2.1, fun q hq => vk_R.warm hW (h.2.2.1 q hq), vx_Zq.narrow (vx_Zq.moved hW.alike (vx_Zq.kept h.2.2.2.1 hk)) hAB, vx_Zq.narrow (vx_Zq.moved hW.alike (vx_Zq.kept h.2.2.2.2.1 hk)) hAB, fun q hq h0 => va_Nc.moved hW.alike (h.2.2.2.2.2 q hq h0)⟩
section RIS1
variable (G : ri_Tb) (D : va_G) (tyc : Nat → ClassId) (A : Nat → Prop) (ρ : Nat → Int32) (sa : String → Nat → Nat) (n0 : Nat) (ad0 : Nat → Nat)
/-- a way out of a method, at a state -/
def ri_At (lf : ri_Lf) (ad : Nat → Nat) (st t : State) : Prop := ri_ag n0 ad0 ad ∧ (∀ q ∈ lf.1, ri_sat ρ q) ∧ n0 ≤ lf.2.1.length ∧ ri_okM lf.2.1.length lf.2.1 ∧ va_P D (ri_cls G) (ri_w ρ sa (ri_aty G) tyc ad lf.2.1) t.heap ∧ va_D A (ri_w ρ sa (ri_aty G) tyc ad lf.2.1) ∧ va_F A st t
def ri_Qc (LT : List ri_Lf) : Array Value → State → Outcome → State → Prop := fun _ st o t => ∃ lf ∈ LT, ∃ (tm : Option Jvm.Term) (ad : Nat → Nat), lf.2.2 = .inl tm ∧ o = .returned (tm.map (ri_cv ρ sa ad)) ∧ (∀ z, tm = some z → ri_ok lf.2.1.length z) ∧ ri_At G D tyc A ρ sa n0 ad0 lf ad st t
def ri_XC (LT : List ri_Lf) : String → State → State → Prop := fun E st t => ∃ lf ∈ LT, ∃ (ad : Nat → Nat), lf.2.2 = .inr E ∧ ri_At G D tyc A ρ sa n0 ad0 lf ad st t
end RIS1
def ri_Pc (ALL : List Jvm.Cond) (STR : List (String × Nat × String)) (G : ri_Tb) (D : va_G) (tyc : Nat → ClassId) (ρ : Nat → Int32) (sa : String → Nat → Nat) (ad : Nat → Nat) (sz : Nat) (args : List Jvm.Term) (mem : ri_Me) : Array Value → State → Prop := fun v U =>
  v = (args.map (ri_cv ρ sa ad)).toArray ∧ U.heap.size = sz ∧ va_P D (ri_cls G) (ri_w ρ sa (ri_aty G) tyc ad mem) U.heap ∧ va_D (fun _ => True) (ri_w ρ sa (ri_aty G) tyc ad mem) ∧ ri_St ALL STR G D tyc sa (va_A (ri_w ρ sa (ri_aty G) tyc ad mem) sz) U
theorem ri_Pc_blind {ALL : List Jvm.Cond} {STR : List (String × Nat × String)} {G : ri_Tb} {D : va_G} {tyc : Nat → ClassId} {ρ : Nat → Int32} {sa : String → Nat → Nat} {ad : Nat → Nat} {sz : Nat} {args : List Jvm.Term} {mem : ri_Me} (hwm : ∀ w ∈ ALL, ri_warm w = true) : FrameBlind (ri_Pc ALL STR G D tyc ρ sa ad sz args mem) := by
  intro a U g mk q
  obtain ⟨q1, q2, q3, q4, q5⟩ := q
  exact ⟨q1, q2, q3, q4, ri_St_go (U := U.calling g mk a) hwm q5 (State.WarmedH.refl U) (fun _ _ _ => rfl) (fun _ h => h)⟩
/-- the rooms: at depth d -/
def ri_rm (d LC mc ms : Nat) : Room := { frames := d + 5, cells := mc, slots := ms, locals := 150 + d * LC }
def ri_Con (l : Launch) (ALL : List Jvm.Cond) (STR : List (String × Nat × String)) (G : ri_Tb) (LC d : Nat) (mi : Nat) (args : List Jvm.Term) (cs : List ri_Cd) (mem : ri_Me) (rs : ri_Rs) : Prop :=
  ∀ M, (ri_mts G)[mi]? = some M → ∀ (D : va_G) (tyc : Nat → ClassId) (ρ : Nat → Int32) (sa : String → Nat → Nat) (ad : Nat → Nat) (sz : Nat), (∀ q ∈ cs, ri_sat ρ q) → ri_okM mem.length mem → (∀ t ∈ args, ri_ok mem.length t) → (∀ o ∈ rs.2.2.2, ri_obs ρ o) →
    vx_Met l (ri_nm M) [ri_hw M] (ri_rm d LC rs.2.1 rs.2.2.1) (ri_Pc ALL STR G D tyc ρ sa ad sz args mem)
      (ri_Qc G D tyc (va_A (ri_w ρ sa (ri_aty G) tyc ad mem) sz) ρ sa mem.length ad rs.1) (ri_XC G D tyc (va_A (ri_w ρ sa (ri_aty G) tyc ad mem) sz) ρ sa mem.length ad rs.1) rs.2.1 rs.2.2.1 (va_A (ri_w ρ sa (ri_aty G) tyc ad mem) sz)
section RIS2
variable {p : Program} {l : Launch} {e : Env} {R : Room} {s : State} {m : MethodId} {args : Array Value} {below : List Frame} {meth : Method} {c : Code} {H : Heap} {locs : List Loc} {cells slots : Nat} {Q : State → Prop}
variable {mc ms : Nat} {free : Addr → Prop} {A : Nat → Prop} {H0 : Heap} {pc : Nat} {ls : Array Slot} {st0 rest : List Value}
/-- behind a call that answers or throws -/
theorem ri_use {Qa : State → Outcome → State → Prop} {XC : String → State → State → Prop} (hr : vx_Run p l e R s m args below meth c H locs cells slots mc ms (F0 m pc ls st0) rest Qa XC free)
    (kk : ∀ (v : Option Value) (st₀ t : State) (H1 : Heap) (L : List Loc), st₀.heap = H → t.heap = H1 → s.vm.Alike t.vm → (∀ q ∈ L, free q.base) → Qa st₀ (.returned v) t → W p l e R s m args below meth c H1 (locs ++ L) (cells + mc) (slots + ms) Q (F0 m (pc + 3) ls (v.toList ++ rest)))
    (kx : ∀ (q : Addr) (E : String) (ce : Cell) (st₀ t : State) (H1 : Heap) (L : List Loc), st₀.heap = H → t.heap = H1 → s.vm.Alike t.vm → (∀ q ∈ L, free q.base) → XC E st₀ t → H1[q]? = some ce → ce.vm = .none → s.vm.findClass E = some ce.cls → vx_W p l e R s m args below meth c H1 (locs ++ L) (cells + mc) (slots + ms) Q (F0 m pc ls rest) q) :
    W p l e R s m args below meth c H locs cells slots Q (F0 m pc ls st0) := by
  intro T hT X
  rcases hr T hT X with ⟨v, st₀, t, T', L, h0, X', hL, e1, e2, hq, st⟩ | ⟨q, st₀, t, T', L, E, ce, h0, X', hL, e1, e2, hq, hce, hcv, hcl, st⟩
  · obtain ⟨t2, a1, b1⟩ := kk v st₀ t T'.heap L h0 e1.symm (by rw [← e2]; exact X'.warmed.alike) hL hq T' rfl X'
    exact ⟨t2, st t2 a1, b1⟩
  · obtain ⟨t2, a1, b1⟩ := kx q E ce st₀ t T'.heap L h0 e1.symm (by rw [← e2]; exact X'.warmed.alike) hL hq (by rw [e1]; exact hce) hcv hcl T' rfl X'
    exact ⟨t2, st.trans a1, b1⟩
end RIS2
end RIS
end
section
/-! RI: forks, jumps, answers, exceptions and calls are sound, if what follows is -/
section RIX
/-- what holds of a method that is walked, for its end and its calls too -/
def ri_Cx (l : Launch) (ALL : List Jvm.Cond) (STR : List (String × Nat × String)) (sa : String → Nat → Nat) (G : ri_Tb) (M : ri_Mt) (D : va_G) (tyc : Nat → ClassId) (A : Nat → Prop) (p : Program) (s : State) (m : MethodId) (args : Array Value) (meth : Method) (c : Code) (R : Room) (LC d mcT msT : Nat) : Prop :=
  ri_Ctx ALL STR sa G M D tyc A p s m args meth c ∧ ri_St ALL STR G D tyc sa A s ∧ (∀ w ∈ ALL, ri_warm w = true) ∧ meth.sig.returnType = ri_rt M ∧ meth.locks = false ∧ c.exceptionTable.toList = tableOf (ri_hh M) ∧ l.stackTraces = false ∧ R = ri_rm (d + 1) LC mcT msT ∧ (∀ i ∈ ri_mts G, 19 + ri_mx i ≤ LC) ∧ (∀ M2 ∈ ri_mts G, ri_own M2 = (ri_nm M2).cls ∧ ri_hw M2 ∈ ALL ∧ goodWord (ri_hw M2) = true ∧ Jvm.Cond.initialized (ri_nm M2).cls ∈ ALL ∧ Bundle.fit (ri_nm M2).cls = true) ∧ (∀ q ∈ ri_nc G, q.2.2 = true → Jvm.Cond.castable q.1 q.2.1 ∈ ALL)
section RIX1
variable (p : Program) (l : Launch) (e : Env) (R : Room) (s : State) (m : MethodId) (args : Array Value) (below : List Frame) (meth : Method) (c : Code) (G : ri_Tb) (M : ri_Mt) (D : va_G) (tyc : Nat → ClassId) (A : Nat → Prop) (ρ : Nat → Int32) (sa : String → Nat → Nat) (n0 : Nat) (ad0 : Nat → Nat) (LT : List ri_Lf) (mcT msT : Nat)
/-- a place of the walk from which all goes to one of the ends -/
def ri_So (pc : Nat) (lv : List (Nat × Jvm.Term)) (st : List Jvm.Term) (cs : List ri_Cd) (mem : ri_Me) (rs : ri_Rs) : Prop :=
  ∀ (ad : Nat → Nat) (ls : Array Slot) (H : Heap) (locs : List Loc) (cells slots : Nat), ri_ag n0 ad0 ad → n0 ≤ mem.length → lv_has ls (ri_mx M) (ri_lc ρ sa ad lv) → va_P D (ri_cls G) (ri_w ρ sa (ri_aty G) tyc ad mem) H → va_D A (ri_w ρ sa (ri_aty G) tyc ad mem) → va_S A s.heap H locs → ri_okM mem.length mem → (∀ q ∈ lv, ri_ok mem.length q.2) → (∀ t ∈ st, ri_ok mem.length t) → (∀ q ∈ cs, ri_sat ρ q) → (∀ x ∈ rs.1, x ∈ LT) → cells + rs.2.1 ≤ mcT → slots + rs.2.2.1 ≤ msT → (∀ o ∈ rs.2.2.2, ri_obs ρ o) →
    W p l e R s m args below meth c H locs cells slots (vx_MQ below (ri_Qc G D tyc A ρ sa n0 ad0 LT) (ri_XC G D tyc A ρ sa n0 ad0 LT) args s mcT msT A) (F0 m pc ls (st.map (ri_cv ρ sa ad)))
end RIX1
section RIX2
variable {p : Program} {l : Launch} {e : Env} {R : Room} {s : State} {m : MethodId} {args : Array Value} {below : List Frame} {meth : Method} {c : Code}
variable {ALL : List Jvm.Cond} {STR : List (String × Nat × String)} {G : ri_Tb} {M : ri_Mt} {D : va_G} {tyc : Nat → ClassId} {A : Nat → Prop}
variable {ρ : Nat → Int32} {sa : String → Nat → Nat} {n0 LC d mcT msT : Nat} {ad0 : Nat → Nat} {LT : List ri_Lf} {lv : List (Nat × Jvm.Term)} {st : List Jvm.Term} {mem : ri_Me} {pc idx len : Nat} {cs : List ri_Cd} {rs r1 : ri_Rs} {K : ri_K} {call : ri_Call}
theorem ri_So_le (h : ri_So p l e R s m args below meth c G M D tyc A ρ sa n0 ad0 LT mcT msT pc lv st cs mem r1) (hl : ri_le r1 rs) : ri_So p l e R s m args below meth c G M D tyc A ρ sa n0 ad0 LT mcT msT pc lv st cs mem rs :=
  fun ad ls H locs cells slots h1 h2 h3 h4 h5 h6 h7 h8 h9 h10 h11 h12 h13 h14 => h ad ls H locs cells slots h1 h2 h3 h4 h5 h6 h7 h8 h9 h10 (fun x hx => h11 x (hl.1 x hx)) (Nat.le_trans (Nat.add_le_add_left hl.2.1 _) h12) (Nat.le_trans (Nat.add_le_add_left hl.2.2.1 _) h13) (fun o ho => h14 o (hl.2.2.2 o ho))
theorem ri_sat_eq {a b : Jvm.Term} {v : Bool} : ri_sat ρ (0, a, b, v) ↔ (v = true ↔ ri_iv ρ a = ri_iv ρ b) := Iff.rfl
theorem ri_sat_lt {a b : Jvm.Term} {v : Bool} : ri_sat ρ (1, a, b, v) ↔ (v = true ↔ ri_iv ρ a < ri_iv ρ b) := Iff.rfl
theorem ri_i0 : ri_iv ρ (.int 0) = 0 := rfl
/-- a compare with 0 -/
theorem ri_if_W {cnd : ClassFile.Cond} {off : Int} {t : Nat} {a : Jvm.Term} {r : List Jvm.Term} {H : Heap} {locs : List Loc} {cells slots : Nat} {Q : State → Prop} {ls : Array Slot} {ad : Nat → Nat} (hx : p.tables.exec = Jvm.exec) (hb : c.code = ri_by M) (hd : decode (ri_by M) pc = .ok (.ifCond cnd off, 3)) (ht : (pc : Int) + off = (t : Int)) (ha : ri_k a = 0)
    (kt : ri_sat ρ (ri_cnd cnd a (.int 0)) → W p l e R s m args below meth c H locs cells slots Q (F0 m t ls (r.map (ri_cv ρ sa ad)))) (kf : ¬ ri_sat ρ (ri_cnd cnd a (.int 0)) → W p l e R s m args below meth c H locs cells slots Q (F0 m (pc + 3) ls (r.map (ri_cv ρ sa ad)))) :
    W p l e R s m args below meth c H locs cells slots Q (F0 m pc ls ((a :: r).map (ri_cv ρ sa ad))) := by
  rw [List.map_cons, ri_ivI ha]
  cases cnd with
  | eq => exact lv_if_eq hx hb hd ht (fun h => kt (ri_sat_eq.mpr (by rw [ri_i0]; simp [h]))) (fun h => kf (fun q => h (by have := ri_sat_eq.mp q; rw [ri_i0] at this; exact this.mp rfl)))
  | ne => exact lv_if_ne hx hb hd ht (fun h => kt (ri_sat_eq.mpr (by rw [ri_i0]; simp [h]))) (fun h => kf (fun q => by have := ri_sat_eq.mp q; rw [ri_i0] at this; exact absurd (this.mpr h) (by decide)))
  | lt => exact lv_if_lt hx hb hd ht (fun h => kt (ri_sat_lt.mpr (by rw [ri_i0]; simp [h]))) (fun h => kf (fun q => h (by have := ri_sat_lt.mp q; rw [ri_i0] at this; exact this.mp rfl)))
  | ge => exact lv_if_ge hx hb hd ht (fun h => kt (ri_sat_lt.mpr (by rw [ri_i0]; simp [Int32.not_lt.mpr h]))) (fun h => kf (fun q => h (by have := ri_sat_lt.mp q; rw [ri_i0] at this; exact Int32.not_lt.mp (fun z => absurd (this.mpr z) (by decide)))))
  | gt => exact lv_if_gt hx hb hd ht (fun h => kt (ri_sat_lt.mpr (by rw [ri_i0]; simp [h]))) (fun h => kf (fun q => h (by have := ri_sat_lt.mp q; rw [ri_i0] at this; exact this.mp rfl)))
  | le => exact lv_if_le hx hb hd ht (fun h => kt (ri_sat_lt.mpr (by rw [ri_i0]; simp [Int32.not_lt.mpr h]))) (fun h => kf (fun q => h (by have := ri_sat_lt.mp q; rw [ri_i0] at this; exact Int32.not_lt.mp (fun z => absurd (this.mpr z) (by decide)))))
theorem ri_ic_W {cnd : ClassFile.Cond} {off : Int} {t : Nat} {a b : Jvm.Term} {r : List Jvm.Term} {H : Heap} {locs : List Loc} {cells slots : Nat} {Q : State → Prop} {ls : Array Slot} {ad : Nat → Nat} (hx : p.tables.exec = Jvm.exec) (hb : c.code = ri_by M) (hd : decode (ri_by M) pc = .ok (.if_icmp cnd off, 3)) (ht : (pc : Int) + off = (t : Int)) (ha : ri_k a = 0) (hb2 : ri_k b = 0)
    (kt : ri_sat ρ (ri_cnd cnd a b) → W p l e R s m args below meth c H locs cells slots Q (F0 m t ls (r.map (ri_cv ρ sa ad)))) (kf : ¬ ri_sat ρ (ri_cnd cnd a b) → W p l e R s m args below meth c H locs cells slots Q (F0 m (pc + 3) ls (r.map (ri_cv ρ sa ad)))) :
    W p l e R s m args below meth c H locs cells slots Q (F0 m pc ls ((b :: a :: r).map (ri_cv ρ sa ad))) := by
  rw [List.map_cons, List.map_cons, ri_ivI ha, ri_ivI hb2]
  cases cnd with
  | eq => exact lv_icmp_eq hx hb hd ht (fun h => kt (ri_sat_eq.mpr (by simp [h]))) (fun h => kf (fun q => h ((ri_sat_eq.mp q).mp rfl)))
  | ne => exact lv_icmp_ne hx hb hd ht (fun h => kt (ri_sat_eq.mpr (by simp [h]))) (fun h => kf (fun q => absurd ((ri_sat_eq.mp q).mpr h) (by decide)))
  | lt => exact lv_icmp_lt hx hb hd ht (fun h => kt (ri_sat_lt.mpr (by simp [h]))) (fun h => kf (fun q => h ((ri_sat_lt.mp q).mp rfl)))
  | ge => exact lv_icmp_ge hx hb hd ht (fun h => kt (ri_sat_lt.mpr (by simp [Int32.not_lt.mpr h]))) (fun h => kf (fun q => h (Int32.not_lt.mp (fun z => absurd ((ri_sat_lt.mp q).mpr z) (by decide)))))
  | gt => exact lv_icmp_gt hx hb hd ht (fun h => kt (ri_sat_lt.mpr (by simp [h]))) (fun h => kf (fun q => h ((ri_sat_lt.mp q).mp rfl)))
  | le => exact lv_icmp_le hx hb hd ht (fun h => kt (ri_sat_lt.mpr (by simp [Int32.not_lt.mpr h]))) (fun h => kf (fun q => h (Int32.not_lt.mp (fun z => absurd ((ri_sat_lt.mp q).mpr z) (by decide)))))
/-- a switch -/
theorem ri_chain_s {x : Jvm.Term} {T : Nat → List ri_Cd → Option ri_Rs} {dflt : Int} : ∀ (ps : List (Int × Int)) (cs : List ri_Cd) {rs : ri_Rs}, (∀ q ∈ cs, ri_sat ρ q) → ri_chain x pc T dflt ps cs = some rs →
    ∃ (off : Int) (t : Nat) (cs' : List ri_Cd) (r1 : ri_Rs), ri_tg pc off = some t ∧ T t cs' = some r1 ∧ (∀ q ∈ cs', ri_sat ρ q) ∧ ri_le r1 rs ∧ ((∃ (j : Nat) (v : Int), ps[j]? = some (v, off) ∧ ri_iv ρ x = Int32.ofInt v ∧ ∀ (i : Nat), i < j → ∀ (w o : Int), ps[i]? = some (w, o) → ¬ ri_iv ρ x = Int32.ofInt w) ∨ (off = dflt ∧ ∀ (i : Nat) (w o : Int), ps[i]? = some (w, o) → ¬ ri_iv ρ x = Int32.ofInt w))
  | [], cs, rs, hsat, h => by
    unfold ri_chain at h
    split at h
    · next t ht => exact ⟨dflt, t, cs, rs, ht, h, hsat, ⟨fun _ h => h, Nat.le_refl _, Nat.le_refl _, fun _ h => h⟩, Or.inr ⟨rfl, fun i w o hi => by simp at hi⟩⟩
    · cases h
  | (v, off) :: l, cs, rs, hsat, h => by
    unfold ri_chain at h
    have e1 : ri_iv ρ (ri_ci (Int32.ofInt v)) = Int32.ofInt v := by rw [ri_ci_eq]; rfl
    rcases ri_br_s hsat h with ⟨h1, cs', r1, h2, h3, h4⟩ | ⟨h1, cs', r1, h2, h3, h4⟩
    · split at h2
      · next t ht =>
        refine ⟨off, t, cs', r1, ht, h2, h3, h4, Or.inl ⟨0, v, rfl, ?_, fun i hi => absurd hi (Nat.not_lt_zero i)⟩⟩
        have h5 := (ri_sat_eq.mp h1).mp rfl
        rw [e1] at h5
        exact h5
      · cases h2
    · have hne : ¬ ri_iv ρ x = Int32.ofInt v := fun z => h1 (ri_sat_eq.mpr ⟨fun _ => by rw [e1]; exact z, fun _ => rfl⟩)
      obtain ⟨off2, t, cs2, r2, g1, g2, g3, g4, g5⟩ := ri_chain_s l cs' h3 h2
      refine ⟨off2, t, cs2, r2, g1, g2, g3, ri_le_tr g4 h4, ?_⟩
      rcases g5 with ⟨j, w, k1, k2, k3⟩ | ⟨k1, k2⟩
      · refine Or.inl ⟨j + 1, w, by rw [List.getElem?_cons_succ]; exact k1, k2, fun i hi w2 o2 hi2 => ?_⟩
        cases i with
        | zero => rw [List.getElem?_cons_zero] at hi2; cases hi2; exact hne
        | succ i => rw [List.getElem?_cons_succ] at hi2; exact k3 i (by omega) w2 o2 hi2
      · refine Or.inr ⟨k1, fun i w2 o2 hi2 => ?_⟩
        cases i with
        | zero => rw [List.getElem?_cons_zero] at hi2; cases hi2; exact hne
        | succ i => rw [List.getElem?_cons_succ] at hi2; exact k2 i w2 o2 hi2
/-- an end -/
theorem ri_end {ad : Nat → Nat} {H : Heap} {locs : List Loc} {tm : Option Jvm.Term} {t : State} (hag : ri_ag n0 ad0 ad) (hn : n0 ≤ mem.length) (hP : va_P D (ri_cls G) (ri_w ρ sa (ri_aty G) tyc ad mem) H) (hD : va_D A (ri_w ρ sa (ri_aty G) tyc ad mem)) (hS : va_S A s.heap H locs) (hok : ri_okM mem.length mem) (hst : ∀ z, tm = some z → ri_ok mem.length z) (hsat : ∀ q ∈ cs, ri_sat ρ q) (hm : (cs, mem, .inl tm) ∈ LT) (ht : t.heap = H) :
    ri_Qc G D tyc A ρ sa n0 ad0 LT args s (.returned (tm.map (ri_cv ρ sa ad))) t :=
  ⟨(cs, mem, .inl tm), hm, tm, ad, rfl, rfl, hst, hag, hsat, hn, hok, by rw [ht]; exact hP, hD, hS.F ht⟩
set_option maxHeartbeats 4000000 in
theorem ri_thr_W {ik : Nat} (hC : ri_Cx l ALL STR sa G M D tyc A p s m args meth c R LC d mcT msT) (hcode : ∀ pc i len, (ri_co M)[pc]? = some (some (i, len)) → decode (ri_by M) pc = .ok (i, len)) (h : ri_thr G M pc ik st cs mem = some rs) (hd : decode (ri_by M) pc = .ok (.new ik, 3)) : ri_So p l e R s m args below meth c G M D tyc A ρ sa n0 ad0 LT mcT msT pc lv st cs mem rs := by
  obtain ⟨⟨⟨hx, hb, hml, hown, hin⟩, hM, hcl, hlk, hts, hK, hA, hstr⟩, hSt, hwm, hr, hlocks, hex, hl, rfl, hLC, hco, hcs⟩ := hC
  intro ad ls H locs cells slots hag hn hl0 hP hD hS hok hlv hst hsat hLT hc1 hs1 hob
  unfold ri_thr at h
  split at h
  · next a5 b5 E is hcp h3 h4 =>
    split at h
    · next ic h6 h9 =>
      split at h
      · next a9 b9 t9 kq a13 b13 E2 hcs9 hci =>
        split at h
        · next hk =>
          cases h
          obtain ⟨hkq, rfl, hlen, hnil⟩ := hk
          have hex0 : ∀ x ∈ c.exceptionTable.toList, False := by rw [hex, List.isEmpty_iff.mp hnil]; intro x hx; cases hx
          obtain ⟨k1, k2, k3⟩ := ri_cp_s hlk hM hcp
          have k9 := ri_cp_s hlk hM hcs9
          have hci9 := ri_cp_s hlk hM hci
          have hsum := ri_sum4 (ρ := ρ) (sa := sa) (ad := ad) hlen
          rcases hkq with rfl | rfl
          · obtain ⟨names, n1, n2, n3⟩ := hci9
            refine vx_throwS (A := A) hx hb hl hown k3 n2 (hts _ k1) (hts _ k2) (hstr _ k9) (fun w hw => hts _ (n3 w hw).1) ?_ hSt.2.2.2.1 hSt.2.2.2.2.1 hS (hl0.1.trans hml.symm) hd (hcode _ _ _ h3) (hcode _ _ _ h4) (hcode _ _ _ h6) (hcode _ _ _ h9) (fun x hx => (hex0 x hx).elim) ?_ ?_ ?_ ?_ hlocks ?_ hS.2.2 hc1 hs1
            · intro w hw
              rcases List.mem_cons.mp hw with rfl | hw
              · rfl
              · rcases List.mem_cons.mp hw with rfl | hw
                · rfl
                · exact (n3 w hw).2
            · show names.length + 3 < d + 1 + 5
              omega
            · show _ ≤ 150 + (d + 1) * LC
              have : 13 * (names.length + 1) + 43 ≤ 82 := by omega
              omega
            · exact hc1
            · exact hs1
            · intro t hvm hsz hq
              refine ⟨(cs, mem, .inr E2), hLT _ List.mem_cons_self, ad, rfl, hag, hsat, hn, hok, va_P.kept hP (fun k q hk => hq q.1 (vx_lt hP hk)), hD, Nat.le_trans hS.1 hsz, fun q h1 h2 => (hq q (Nat.lt_of_lt_of_le h1 hS.1)).trans (hS.2.1 q h1 h2)⟩
          · refine ri_throwX (A := A) hx hb hl hown k3 (by decide +kernel) (names := ["java/lang/Exception"]) (Y0 := "java/lang/RuntimeException") (by intro n hn; rw [List.mem_singleton.mp hn]; decide +kernel) ri_rx0 ri_rx1 ri_rx2 ri_rx5 (hts _ k1) (hts _ k2) (hstr _ k9) (fun w hw => hts _ (hci9 w hw).1) ?_ hSt.2.2.2.1 hSt.2.2.2.2.1 hS (hl0.1.trans hml.symm) hd (hcode _ _ _ h3) (hcode _ _ _ h4) (hcode _ _ _ h6) (hcode _ _ _ h9) (fun x hx => (hex0 x hx).elim) ?_ ?_ ?_ ?_ hlocks ?_ hS.2.2 hc1 hs1
            · intro w hw
              rcases List.mem_cons.mp hw with rfl | hw
              · rfl
              · rcases List.mem_cons.mp hw with rfl | hw
                · rfl
                · exact (hci9 w hw).2
            · show 1 + 4 < d + 1 + 5
              omega
            · show _ ≤ 150 + (d + 1) * LC
              have hl1 : (List.length ["java/lang/Exception"]) = 1 := rfl
              omega
            · exact hc1
            · exact hs1
            · intro t hvm hsz hq
              refine ⟨(cs, mem, .inr E2), hLT _ List.mem_cons_self, ad, rfl, hag, hsat, hn, hok, va_P.kept hP (fun k q hk => hq q.1 (vx_lt hP hk)), hD, Nat.le_trans hS.1 hsz, fun q h1 h2 => (hq q (Nat.lt_of_lt_of_le h1 hS.1)).trans (hS.2.1 q h1 h2)⟩
        · cases h
      · cases h
    · cases h
  · next a5 b5 E is hcp h3 h4 =>
    split at h
    · next ic h6 h9 =>
      split at h
      · next a9 b9 t9 kq a13 b13 E2 hcs9 hci =>
        split at h
        · next hk =>
          cases h
          obtain ⟨hkq, rfl, hlen, hnil⟩ := hk
          have hex0 : ∀ x ∈ c.exceptionTable.toList, False := by rw [hex, List.isEmpty_iff.mp hnil]; intro x hx; cases hx
          obtain ⟨k1, k2, k3⟩ := ri_cp_s hlk hM hcp
          have k9 := ri_cp_s hlk hM hcs9
          have hci9 := ri_cp_s hlk hM hci
          have hsum := ri_sum4 (ρ := ρ) (sa := sa) (ad := ad) hlen
          rcases hkq with rfl | rfl
          · obtain ⟨names, n1, n2, n3⟩ := hci9
            refine vx_throwSW (A := A) hx hb hl hown k3 n2 (hts _ k1) (hts _ k2) (hstr _ k9) (fun w hw => hts _ (n3 w hw).1) ?_ hSt.2.2.2.1 hSt.2.2.2.2.1 hS (hl0.1.trans hml.symm) hd (hcode _ _ _ h3) (hcode _ _ _ h4) (hcode _ _ _ h6) (hcode _ _ _ h9) (fun x hx => (hex0 x hx).elim) ?_ ?_ ?_ ?_ hlocks ?_ hS.2.2 hc1 hs1
            · intro w hw
              rcases List.mem_cons.mp hw with rfl | hw
              · rfl
              · rcases List.mem_cons.mp hw with rfl | hw
                · rfl
                · exact (n3 w hw).2
            · show names.length + 3 < d + 1 + 5
              omega
            · show _ ≤ 150 + (d + 1) * LC
              have : 13 * (names.length + 1) + 43 ≤ 82 := by omega
              omega
            · exact hc1
            · exact hs1
            · intro t hvm hsz hq
              refine ⟨(cs, mem, .inr E2), hLT _ List.mem_cons_self, ad, rfl, hag, hsat, hn, hok, va_P.kept hP (fun k q hk => hq q.1 (vx_lt hP hk)), hD, Nat.le_trans hS.1 hsz, fun q h1 h2 => (hq q (Nat.lt_of_lt_of_le h1 hS.1)).trans (hS.2.1 q h1 h2)⟩
          · refine ri_throwXW (A := A) hx hb hl hown k3 (by decide +kernel) (names := ["java/lang/Exception"]) (Y0 := "java/lang/RuntimeException") (by intro n hn; rw [List.mem_singleton.mp hn]; decide +kernel) ri_rx0 ri_rx1 ri_rx2 ri_rx5 (hts _ k1) (hts _ k2) (hstr _ k9) (fun w hw => hts _ (hci9 w hw).1) ?_ hSt.2.2.2.1 hSt.2.2.2.2.1 hS (hl0.1.trans hml.symm) hd (hcode _ _ _ h3) (hcode _ _ _ h4) (hcode _ _ _ h6) (hcode _ _ _ h9) (fun x hx => (hex0 x hx).elim) ?_ ?_ ?_ ?_ hlocks ?_ hS.2.2 hc1 hs1
            · intro w hw
              rcases List.mem_cons.mp hw with rfl | hw
              · rfl
              · rcases List.mem_cons.mp hw with rfl | hw
                · rfl
                · exact (hci9 w hw).2
            · show 1 + 4 < d + 1 + 5
              omega
            · show _ ≤ 150 + (d + 1) * LC
              have hl1 : (List.length ["java/lang/Exception"]) = 1 := rfl
              omega
            · exact hc1
            · exact hs1
            · intro t hvm hsz hq
              refine ⟨(cs, mem, .inr E2), hLT _ List.mem_cons_self, ad, rfl, hag, hsat, hn, hok, va_P.kept hP (fun k q hk => hq q.1 (vx_lt hP hk)), hD, Nat.le_trans hS.1 hsz, fun q h1 h2 => (hq q (Nat.lt_of_lt_of_le h1 hS.1)).trans (hS.2.1 q h1 h2)⟩
        · cases h
      · cases h
    · cases h
  · cases h
end RIX2
end RIX
end
section
/-! RI: calls -/
section RIY
section RIY1
variable {p : Program} {l : Launch} {e : Env} {R : Room} {s : State} {m : MethodId} {args : Array Value} {below : List Frame} {meth : Method} {c : Code}
variable {ALL : List Jvm.Cond} {STR : List (String × Nat × String)} {G : ri_Tb} {M : ri_Mt} {D : va_G} {tyc : Nat → ClassId} {A : Nat → Prop}
variable {ρ : Nat → Int32} {sa : String → Nat → Nat} {n0 LC d mcT msT : Nat} {ad0 : Nat → Nat} {LT : List ri_Lf} {lv : List (Nat × Jvm.Term)} {st rest : List Jvm.Term} {mem : ri_Me} {pc idx len : Nat} {cs : List ri_Cd} {rs r1 : ri_Rs} {K : ri_K} {call : ri_Call}
theorem ri_A1 {ad : Nat → Nat} {H : Heap} {locs : List Loc} (hD : va_D A (ri_w ρ sa (ri_aty G) tyc ad mem)) (hS : va_S A s.heap H locs) (hA : ∀ q, s.heap.size ≤ q → A q) : ∀ q, va_A (ri_w ρ sa (ri_aty G) tyc ad mem) H.size q → A q := by
  intro q h
  rcases h with ⟨k, e, h⟩ | h
  · exact hD.2 k (q, e) h
  · exact hA q (Nat.le_trans hS.1 h)
/-- where a method's handlers let an exception pass -/
theorem ri_find_n {E : String} (hlk : ri_lkOK ALL STR G) (hM : ri_lkM ALL STR G M) (hts : ∀ w ∈ ALL, w.before args s = true) (hnc : ∀ q ∈ ri_nc G, q.2.2 = false → va_Nc q.1 q.2.1 s) : ∀ (hh : List (Nat × Nat × Nat × Nat)), ri_find G M pc E hh = some none → ∀ z ∈ tableOf hh, covers z pc = false ∨ (z.catchType ≠ 0 ∧ ∃ nm : String, (Cond.classLink (ri_own M) z.catchType nm).before args s = true ∧ va_Nc E nm s)
  | [], h, z, hz => by cases hz
  | (a, b, hp, ct) :: l, h, z, hz => by
    unfold ri_find at h
    split at h
    · next hc =>
      split at h
      · next x y nm hcp =>
        split at h
        · next q hq =>
          split at h
          · cases h
          · next h0 =>
            split at h
            · cases h
            · next hf =>
              rcases List.mem_cons.mp hz with rfl | hz
              · have h2 := List.find?_some hq
                simp only [Bool.and_eq_true, beq_iff_eq] at h2
                have h3 := hnc q (List.mem_of_find?_eq_some hq) (by simpa using hf)
                rw [h2.1, h2.2] at h3
                exact Or.inr ⟨h0, nm, hts _ (ri_cp_s hlk hM hcp).1, h3⟩
              · exact ri_find_n hlk hM hts hnc l h z hz
        · cases h
      · cases h
    · next hc =>
      rcases List.mem_cons.mp hz with rfl | hz
      · left
        show (decide (a ≤ pc) && decide (pc < b)) = false
        rw [Bool.and_eq_false_iff, decide_eq_false_iff_not, decide_eq_false_iff_not]
        omega
      · exact ri_find_n hlk hM hts hnc l h z hz
/-- where one of them catches it -/
theorem ri_find_c {E : String} {hp : Nat} (hlk : ri_lkOK ALL STR G) (hM : ri_lkM ALL STR G M) (hts : ∀ w ∈ ALL, w.before args s = true) (hnc : ∀ q ∈ ri_nc G, q.2.2 = false → va_Nc q.1 q.2.1 s) (hcs : ∀ q ∈ ri_nc G, q.2.2 = true → Jvm.Cond.castable q.1 q.2.1 ∈ ALL) : ∀ (hh : List (Nat × Nat × Nat × Nat)), ri_find G M pc E hh = some (some hp) →
    ∃ (pre : List ExceptionTableEntry) (x : ExceptionTableEntry) (suf : List ExceptionTableEntry) (nm : String), tableOf hh = pre ++ x :: suf ∧ (∀ z ∈ pre, covers z pc = false ∨ (z.catchType ≠ 0 ∧ ∃ nm : String, (Cond.classLink (ri_own M) z.catchType nm).before args s = true ∧ va_Nc E nm s)) ∧ covers x pc = true ∧ x.catchType ≠ 0 ∧ x.handlerPc = hp ∧ (Cond.classLink (ri_own M) x.catchType nm).before args s = true ∧ (Cond.castable E nm).before args s = true
  | [], h => by cases h
  | (a, b, h0, ct) :: l, h => by
    have skip : ri_find G M pc E l = some (some hp) → (covers (⟨a, b, h0, ct⟩ : ExceptionTableEntry) pc = false ∨ ((⟨a, b, h0, ct⟩ : ExceptionTableEntry).catchType ≠ 0 ∧ ∃ nm : String, (Cond.classLink (ri_own M) (⟨a, b, h0, ct⟩ : ExceptionTableEntry).catchType nm).before args s = true ∧ va_Nc E nm s)) → ∃ (pre : List ExceptionTableEntry) (x : ExceptionTableEntry) (suf : List ExceptionTableEntry) (nm : String), tableOf ((a, b, h0, ct) :: l) = pre ++ x :: suf ∧ (∀ z ∈ pre, covers z pc = false ∨ (z.catchType ≠ 0 ∧ ∃ nm : String, (Cond.classLink (ri_own M) z.catchType nm).before args s = true ∧ va_Nc E nm s)) ∧ covers x pc = true ∧ x.catchType ≠ 0 ∧ x.handlerPc = hp ∧ (Cond.classLink (ri_own M) x.catchType nm).before args s = true ∧ (Cond.castable E nm).before args s = true := by
      intro h hz
      obtain ⟨pre, x, suf, nm, e1, e2, e3⟩ := ri_find_c hlk hM hts hnc hcs l h
      refine ⟨⟨a, b, h0, ct⟩ :: pre, x, suf, nm, ?_, fun z hz2 => ?_, e3⟩
      · show _ :: tableOf l = _
        rw [e1]; rfl
      · rcases List.mem_cons.mp hz2 with rfl | hz2
        · exact hz
        · exact e2 z hz2
    unfold ri_find at h
    split at h
    · next hc =>
      split at h
      · next x y nm hcp =>
        split at h
        · next q hq =>
          have h2 := List.find?_some hq
          simp only [Bool.and_eq_true, beq_iff_eq] at h2
          have hqm := List.mem_of_find?_eq_some hq
          split at h
          · cases h
          · next hct =>
            split at h
            · next hf =>
              cases h
              have h3 := hcs q hqm hf
              rw [h2.1, h2.2] at h3
              refine ⟨[], ⟨a, b, hp, ct⟩, tableOf l, nm, rfl, fun z hz => (by cases hz), ?_, hct, rfl, hts _ (ri_cp_s hlk hM hcp).1, hts _ h3⟩
              show (decide (a ≤ pc) && decide (pc < b)) = true
              rw [Bool.and_eq_true, decide_eq_true_iff, decide_eq_true_iff]
              exact hc
            · next hf =>
              have h3 := hnc q hqm (by simpa using hf)
              rw [h2.1, h2.2] at h3
              exact skip h (Or.inr ⟨hct, nm, hts _ (ri_cp_s hlk hM hcp).1, h3⟩)
        · cases h
      · cases h
    · next hc =>
      refine skip h (Or.inl ?_)
      show (decide (a ≤ pc) && decide (pc < b)) = false
      rw [Bool.and_eq_false_iff, decide_eq_false_iff_not, decide_eq_false_iff_not]
      omega
theorem ri_ers_has {ad : Nat → Nat} {ls : Array Slot} {nL i : Nat} {q : Nat} (h : lv_has ls nL ((i, Value.ref q) :: (ri_lc ρ sa ad lv).filter (fun q => !(q.1 == i) && !(q.1 + 1 == i && q.2.category == 2)))) : lv_has ls nL (ri_lc ρ sa ad (ri_ers lv i)) := by
  refine ri_has_sub h fun q hq => ?_
  obtain ⟨z, hz, rfl⟩ := List.mem_map.mp hq
  obtain ⟨h1, h2⟩ := List.mem_filter.mp hz
  refine List.mem_cons_of_mem _ (List.mem_filter.mpr ⟨List.mem_map.mpr ⟨z, h1, rfl⟩, ?_⟩)
  have e : ((ri_cv ρ sa ad z.2).category == 2) = ri_wide z.2 := by
    rw [Bool.eq_iff_iff, beq_iff_eq]; exact ri_cat2
  show (!(z.1 == i) && !(z.1 + 1 == i && (ri_cv ρ sa ad z.2).category == 2)) = true
  rw [e]; exact h2
theorem ri_back_W {ad : Nat → Nat} {ls : Array Slot} {H : Heap} {locs : List Loc} {cells slots : Nat} {st0 : List Value} {L : List ri_Lf} {mc ms : Nat} {r2 : ri_Rs} {va : Array Value} (hC : ri_Cx l ALL STR sa G M D tyc A p s m args meth c R LC d mcT msT) (hcode : ∀ pc i len, (ri_co M)[pc]? = some (some (i, len)) → decode (ri_by M) pc = .ok (i, len)) (hK : ∀ pc lv st cs mem rs, K pc lv st cs mem = some rs → ri_So p l e R s m args below meth c G M D tyc A ρ sa n0 ad0 LT mcT msT pc lv st cs mem rs)
    (hrun : vx_Run p l e R s m args below meth c H locs cells slots mc ms (F0 m pc ls st0) (rest.map (ri_cv ρ sa ad)) (ri_Qc G D tyc (va_A (ri_w ρ sa (ri_aty G) tyc ad mem) H.size) ρ sa mem.length ad L va) (ri_XC G D tyc (va_A (ri_w ρ sa (ri_aty G) tyc ad mem) H.size) ρ sa mem.length ad L) (va_A (ri_w ρ sa (ri_aty G) tyc ad mem) H.size))
    (hseq : ri_seq (ri_after G M K pc lv rest) L = some r2) (hag : ri_ag n0 ad0 ad) (hn : n0 ≤ mem.length) (hl0 : lv_has ls (ri_mx M) (ri_lc ρ sa ad lv)) (hD : va_D A (ri_w ρ sa (ri_aty G) tyc ad mem)) (hS : va_S A s.heap H locs) (hlv : ∀ q ∈ lv, ri_ok mem.length q.2) (hst : ∀ t ∈ rest, ri_ok mem.length t)
    (hLT : ∀ x ∈ r2.1, x ∈ LT) (hc1 : cells + mc + r2.2.1 ≤ mcT) (hs1 : slots + ms + r2.2.2.1 ≤ msT) (hob : ∀ o ∈ r2.2.2.2, ri_obs ρ o) :
    W p l e R s m args below meth c H locs cells slots (vx_MQ below (ri_Qc G D tyc A ρ sa n0 ad0 LT) (ri_XC G D tyc A ρ sa n0 ad0 LT) args s mcT msT A) (F0 m pc ls st0) := by
  obtain ⟨⟨⟨hx, hb, hml, hown, hin⟩, hM, hcl, hlk, hts, hKK, hA, hstr⟩, hSt, hwm, hr, hlocks, hex, hl, rfl, hLC, hco, hcs⟩ := hC
  have hA1 := ri_A1 hD hS hA
  refine ri_use hrun (fun v st₀ t H1 Ls h0 ht hvm hL hQ => ?_) (fun q E ce st₀ t H1 Ls h0 ht hvm hL hQ hce hcv hcl9 => ?_)
  · obtain ⟨lf, hlf, tm, ad', e1, e2, e3, f1, f2, f3, f4, f5, f6, f7⟩ := hQ
    obtain ⟨rx, g1, g2⟩ := ri_seq_s L hseq lf hlf
    obtain ⟨k1, k2, k3⟩ := vx_keep (T' := t) h0 rfl hS (fun q _ h => hA1 q h) hA1 hL f7
    rw [ht] at f5 k3
    have e4 : v = tm.map (ri_cv ρ sa ad') := by injection e2
    have hK1 : K (pc + 3) lv (tm.toList ++ rest) lf.1 lf.2.1 = some rx := by
      unfold ri_after at g1
      rw [e1] at g1
      cases tm with
      | none => exact g1
      | some z => exact g1
    have hgo := hK _ _ _ _ _ _ hK1 ad' ls H1 (locs ++ Ls) (cells + mc) (slots + ms) (ri_ag_tr hag f1 hn) (Nat.le_trans hn f3) (by rw [ri_lc_ag hlv f1]; exact hl0) f5 (f6.weaken (fun _ _ _ h => hA1 _ h)) k3 f4 (fun q hq => ri_ok_mono (hlv q hq) f3) (fun z hz => by
      rcases List.mem_append.mp hz with hz | hz
      · cases tm with
        | none => cases hz
        | some w =>
          have := e3 w rfl
          simp at hz
          rw [hz]; exact this
      · exact ri_ok_mono (hst z hz) f3) f2 (fun x hx => hLT x (g2.1 x hx)) (Nat.le_trans (Nat.add_le_add_left g2.2.1 _) hc1) (Nat.le_trans (Nat.add_le_add_left g2.2.2.1 _) hs1) (fun o ho => hob o (g2.2.2.2 o ho))
    have e5 : v.toList ++ rest.map (ri_cv ρ sa ad) = (tm.toList ++ rest).map (ri_cv ρ sa ad') := by
      rw [e4, List.map_append, ri_map_ag hst f1]
      cases tm <;> rfl
    rw [e5]
    exact hgo
  · obtain ⟨lf, hlf, ad', e1, f1, f2, f3, f4, f5, f6, f7⟩ := hQ
    obtain ⟨rx, g1, g2⟩ := ri_seq_s L hseq lf hlf
    obtain ⟨k1, k2, k3⟩ := vx_keep (T' := t) h0 rfl hS (fun q _ h => hA1 q h) hA1 hL f7
    rw [ht] at f5 k3
    unfold ri_after at g1
    rw [e1] at g1
    dsimp only at g1
    have hts0 : ∀ w ∈ ALL, w.before args s = true := fun w hw => hts w hw
    split at g1
    · next hfn =>
      cases g1
      have hp9 := ri_find_n hlk hM hts0 hSt.2.2.2.2.2 _ hfn
      rw [← hex] at hp9
      refine vx_outP hown hlocks hp9 hce hcv hcl9 (fun t9 ht9 _ => ?_) k3.2.2 (Nat.le_trans (Nat.le_add_right _ _) hc1) (Nat.le_trans (Nat.le_add_right _ _) hs1)
      exact ⟨(lf.1, lf.2.1, .inr E), hLT _ (g2.1 _ List.mem_cons_self), ad', rfl, ri_ag_tr hag f1 hn, f2, Nat.le_trans hn f3, f4, by rw [ht9]; exact f5, f6.weaken (fun _ _ _ h => hA1 _ h), k3.F ht9⟩
    · next hp hfc =>
      obtain ⟨pre, x, suf, nm, e4, e5, e6, e7, e8, e9, e10⟩ := ri_find_c hlk hM hts0 hSt.2.2.2.2.2 hcs _ hfc
      rw [← hex] at e4
      refine vx_catch hown pre x suf e4 e5 e6 e7 e9 e10 hce hcv hcl9 ?_
      rw [e8]
      have hl1 : lv_has ls (ri_mx M) (ri_lc ρ sa ad' lv) := by rw [ri_lc_ag hlv f1]; exact hl0
      have go : ∀ (pc2 k : Nat) (ls' : Array Slot), K pc2 (ri_ers lv k) [] lf.1 lf.2.1 = some rx → lv_has ls' (ri_mx M) (ri_lc ρ sa ad' (ri_ers lv k)) → W p l e (ri_rm (d + 1) LC mcT msT) s m args below meth c H1 (locs ++ Ls) (cells + mc) (slots + ms) (vx_MQ below (ri_Qc G D tyc A ρ sa n0 ad0 LT) (ri_XC G D tyc A ρ sa n0 ad0 LT) args s mcT msT A) (F0 m pc2 ls' []) := fun pc2 k ls' hk hl' =>
        hK _ _ _ _ _ _ hk ad' ls' H1 (locs ++ Ls) (cells + mc) (slots + ms) (ri_ag_tr hag f1 hn) (Nat.le_trans hn f3) hl' f5 (f6.weaken (fun _ _ _ h => hA1 _ h)) k3 f4 (fun q hq => ri_ok_mono (hlv q (List.mem_filter.mp hq).1) f3) (fun z hz => by cases hz) f2 (fun x hx => hLT x (g2.1 x hx)) (Nat.le_trans (Nat.add_le_add_left g2.2.1 _) hc1) (Nat.le_trans (Nat.add_le_add_left g2.2.2.1 _) hs1) (fun o ho => hob o (g2.2.2.2 o ho))
      unfold ri_catch at g1
      split at g1
      · next k hi =>
        split at g1
        · next hk9 => exact lv_astore hx hb (hcode _ _ _ hi) hl1 hk9 rfl fun ls' hl' => go _ k ls' g1 (ri_ers_has hl')
        · cases g1
      · next k hi =>
        split at g1
        · next hk9 => exact lv_astore_n hx hb (hcode _ _ _ hi) rfl hl1 hk9 rfl fun ls' hl' => go _ k ls' g1 (ri_ers_has hl')
        · cases g1
      · cases g1
    · cases g1
theorem ri_recv_s {cls : String} {as : List Jvm.Term} (h : ri_recv G cls mem as = true) : ∃ (k : Nat) (r : List Jvm.Term) (ci : Nat) (fs : List Jvm.Term) (rr : vw_C), as = .index k :: r ∧ mem[k]? = some (.inl (ci, fs)) ∧ (ri_cls G)[ci]? = some rr ∧ rr.1 = cls := by
  unfold ri_recv at h
  split at h
  · next k r =>
    split at h
    · next ci fs hm =>
      split at h
      · next rr hc => exact ⟨k, r, ci, fs, rr, rfl, hm, hc, beq_iff_eq.mp h⟩
      · cases h
    · cases h
  · cases h
/-- a callee's start, from a caller's place -/
theorem ri_pre {ad : Nat → Nat} {H : Heap} {locs : List Loc} {as : List Jvm.Term} (hSt : ri_St ALL STR G D tyc sa A s) (hwm : ∀ w ∈ ALL, ri_warm w = true) (hA : ∀ q, s.heap.size ≤ q → A q) (hP : va_P D (ri_cls G) (ri_w ρ sa (ri_aty G) tyc ad mem) H) (hD : va_D A (ri_w ρ sa (ri_aty G) tyc ad mem)) (hS : va_S A s.heap H locs) (U : State) (hU : U.heap = H) (hW : s.WarmedH U.vm) :
    ri_Pc ALL STR G D tyc ρ sa ad H.size as mem (as.map (ri_cv ρ sa ad)).toArray U :=
  ⟨rfl, by rw [hU], by rw [hU]; exact hP, hD.weaken (fun _ _ _ _ => trivial), ri_St_go hwm hSt hW (fun q h1 h2 => by rw [hU]; exact hS.2.1 q h1 h2) (ri_A1 hD hS hA)⟩
/-- what is asked of a callee's tables -/
theorem ri_cb {M2 : ri_Mt} {n mc ms : Nat} (hts : ∀ w ∈ ALL, ∀ a : Array Value, w.before a s = true) (hLC : ∀ i ∈ ri_mts G, 19 + ri_mx i ≤ LC) (hco : ∀ M2 ∈ ri_mts G, ri_own M2 = (ri_nm M2).cls ∧ ri_hw M2 ∈ ALL ∧ goodWord (ri_hw M2) = true ∧ Jvm.Cond.initialized (ri_nm M2).cls ∈ ALL ∧ Bundle.fit (ri_nm M2).cls = true) (hM2 : M2 ∈ ri_mts G) (hpar : (parseMethodDescriptor (ri_nm M2).desc).map (fun d => d.parameters.length) = some n) :
    ((ri_rm d LC mc ms).cells = mc ∧ (ri_rm d LC mc ms).slots = ms ∧ (ri_rm d LC mc ms).frames + 1 ≤ (ri_rm (d + 1) LC mcT msT).frames ∧ 8 + (ri_mx M2 + 11) + (ri_rm d LC mc ms).locals ≤ (ri_rm (d + 1) LC mcT msT).locals ∧ (∀ w ∈ ([ri_hw M2] : List Jvm.Cond), ∀ (a' : Array Value) (U : State), s.WarmedH U.vm → w.before a' U = true) ∧ ri_hw M2 ∈ ([ri_hw M2] : List Jvm.Cond)) ∧
    (ri_hw M2).before args s = true ∧ (Jvm.Cond.initialized (ri_nm M2).cls).before args s = true ∧ ((ri_nm M2).cls ≠ "java/lang/invoke/MethodHandle" ∧ (ri_nm M2).cls ≠ "java/lang/invoke/VarHandle") ∧ (∀ sig, parseMethodDescriptor (ri_nm M2).desc = some sig → n = sig.parameters.length) := by
  obtain ⟨-, c1, c2, c3, c4⟩ := hco M2 hM2
  have h1 := hLC M2 hM2
  refine ⟨⟨rfl, rfl, ?_, ?_, fun w hw a' U hW => ?_, List.mem_cons_self⟩, hts _ c1 _, hts _ c3 _, ⟨(Bundle.fit_spec c4).2.1, (Bundle.fit_spec c4).2.2⟩, fun sig h => ?_⟩
  · show d + 5 + 1 ≤ d + 1 + 5
    omega
  · show 8 + (ri_mx M2 + 11) + (150 + d * LC) ≤ 150 + (d + 1) * LC
    have : (d + 1) * LC = d * LC + LC := Nat.succ_mul d LC
    omega
  · rw [List.mem_singleton] at hw
    subst hw
    exact word_at hW (good_of_word c2) (hts _ c1 args)
  · rw [h] at hpar
    exact (Option.some.inj hpar).symm
theorem ri_hw_nil {M2 : ri_Mt} (h : (ri_hh M2).isEmpty = true) : ri_hw M2 = .code (ri_nm M2) (ri_by M2) (ri_mx M2) (ri_rt M2) := by
  unfold ri_hw
  rw [List.isEmpty_iff.mp h]
theorem ri_hw_cons {M2 : ri_Mt} {h : Nat × Nat × Nat × Nat} {t : List (Nat × Nat × Nat × Nat)} (e : ri_hh M2 = h :: t) : ri_hw M2 = .codeWith (ri_nm M2) (ri_by M2) (ri_mx M2) (ri_rt M2) (h :: t) := by
  unfold ri_hw
  rw [e]
theorem ri_inv_W (sort : Nat) (hC : ri_Cx l ALL STR sa G M D tyc A p s m args meth c R LC d mcT msT) (hK : ∀ pc lv st cs mem rs, K pc lv st cs mem = some rs → ri_So p l e R s m args below meth c G M D tyc A ρ sa n0 ad0 LT mcT msT pc lv st cs mem rs)
    (hcall : ∀ mi as cs mem rs, call mi as cs mem = some rs → ri_Con l ALL STR G LC d mi as cs mem rs)
    (hd0 : sort = 0 → decode (ri_by M) pc = .ok (.invokevirtual idx, 3)) (hd1 : sort = 1 → decode (ri_by M) pc = .ok (.invokestatic idx, 3)) (hd2 : sort = 2 → decode (ri_by M) pc = .ok (.invokespecial idx, 3)) (h3 : sort < 3)
    (hcode : ∀ pc i len, (ri_co M)[pc]? = some (some (i, len)) → decode (ri_by M) pc = .ok (i, len)) (h : ri_inv G call M K sort pc idx lv st cs mem = some rs) : ri_So p l e R s m args below meth c G M D tyc A ρ sa n0 ad0 LT mcT msT pc lv st cs mem rs := by
  have hC0 := hC
  obtain ⟨⟨⟨hx, hb, hml, hown, hin⟩, hM, hcl, hlk, hts, hKK, hA, hstr⟩, hSt, hwm, hr, hlocks, hex, hl, rfl, hLC, hco, hcs⟩ := hC
  intro ad ls H locs cells slots hag hn hl0 hP hD hS hok hlv hst hsat hLT hc1 hs1 hob
  unfold ri_inv at h
  split at h
  · next kd mi n tx hcp =>
    have hlink := ri_cp_s hlk hM hcp
    split at h
    · next hkd =>
      split at h
      · next M2 hM2 =>
        split at h
        · next hk =>
          obtain ⟨hhh, hlen, hr4, hrecv⟩ := hk
          split at h
          · next L mc ms ob hcl2 =>
            obtain ⟨r2, hseq, x1, x2, x3, x4⟩ := ri_more_s h
            have hM2m : M2 ∈ ri_mts G := List.mem_of_getElem? hM2
            have hoks : ∀ t ∈ (st.take (ri_nn sort n)).reverse, ri_ok mem.length t := fun t ht => hst t (List.mem_of_mem_take (List.mem_reverse.mp ht))
            have hokr : ∀ t ∈ st.drop (ri_nn sort n), ri_ok mem.length t := fun t ht => hst t (List.mem_of_mem_drop ht)
            have hM9 := hcall _ _ _ _ _ hcl2 M2 hM2 D tyc ρ sa ad H.size hsat hok hoks (fun o ho => hob o (by rw [x4]; exact List.mem_append_left _ ho))
            have hsum := ri_sum4 (ρ := ρ) (sa := sa) (ad := ad) hr4
            rw [x2] at hc1
            rw [x3] at hs1
            have hf : cells + mc ≤ (ri_rm (d + 1) LC mcT msT).cells ∧ slots + ms ≤ (ri_rm (d + 1) LC mcT msT).slots := ⟨by show _ ≤ mcT; omega, by show _ ≤ msT; omega⟩
            have hpre := fun U hU hW => ri_pre (ρ := ρ) (as := (st.take (ri_nn sort n)).reverse) hSt hwm hA hP hD hS U hU hW
            have hbl := ri_Pc_blind (STR := STR) (G := G) (D := D) (tyc := tyc) (ρ := ρ) (sa := sa) (ad := ad) (sz := H.size) (args := (st.take (ri_nn sort n)).reverse) (mem := mem) hwm
            have hstk : st.map (ri_cv ρ sa ad) = ((st.take (ri_nn sort n)).reverse.map (ri_cv ρ sa ad)).reverse ++ (st.drop (ri_nn sort n)).map (ri_cv ρ sa ad) := by
              rw [← List.map_reverse, List.reverse_reverse, ← List.map_append, List.take_append_drop]
            have hlen9 : (st.take (ri_nn sort n)).reverse.length = (ri_nn sort n) := by
              rw [List.length_reverse, List.length_take]; omega
            generalize hAs : (st.take (ri_nn sort n)).reverse = as at hM9 hpre hbl hstk hlen9 hrecv
            refine ri_back_W (mc := mc) (ms := ms) (va := (as.map (ri_cv ρ sa ad)).toArray) hC0 hcode hK ?_ hseq hag hn hl0 hD hS hlv hokr (fun x hx => hLT x (by rw [x1]; exact hx)) (by omega) (by omega) (fun o ho => hob o (by rw [x4]; exact List.mem_append_right _ ho))
            have hcf : CallFix p m c (ri_by M) (ri_mx M) s args [] (ri_own M) := ⟨hx, hb, hml, hown, fun w hw => by cases hw⟩
            rcases Nat.lt_or_ge sort 1 with h0 | h0
            · have h0 : sort = 0 := by omega
              subst h0
              obtain ⟨k, r, ci, fs, rr, rfl, hmk, hck, hrr⟩ := ri_recv_s (hrecv.resolve_left (by decide))
              have hre := va_recv hKK hP hck (ri_w_get hmk)
              rw [hrr] at hre
              have hlr : (r.map (ri_cv ρ sa ad)).length = n := by
                rw [List.length_map]
                have : r.length + 1 = n + 1 := hlen9
                omega
              have hst2 : st.map (ri_cv ρ sa ad) = (r.map (ri_cv ρ sa ad)).reverse ++ .ref (ad k) :: (st.drop (n + 1)).map (ri_cv ρ sa ad) := by
                rw [hstk]
                show (Value.ref (ad k) :: r.map (ri_cv ρ sa ad)).reverse ++ _ = _
                rw [List.reverse_cons, List.append_assoc]
                rfl
              have hw9 := ri_hw_nil (hhh.resolve_left (fun z => by rcases hkd with h9 | h9 <;> omega))
              rw [hw9] at hM9
              rcases hkd with rfl | rfl
              · obtain ⟨M3, g1, g2, g3, g4, g5⟩ := hlink
                rw [hM2] at g1
                cases g1
                obtain ⟨⟨b1, b2, b3, b4, b5, b6⟩, b7, b8, b9, b10⟩ := ri_cb (args := args) (d := d) (mcT := mcT) (msT := msT) (mc := mc) (ms := ms) hSt.1 hLC hco hM2m g2
                rw [hw9] at b5 b6 b7
                exact vx_runV (As := r.map (ri_cv ρ sa ad)) (C := (ri_nm M2).cls) hcf hM9 ⟨⟨b1, b2, b3, b4, b5, b6, b7, b8, b9, b10, hSt.1 _ g3 _⟩, hSt.1 _ g4 _, hSt.1 _ g5 _⟩ ⟨hbl, hre, hpre⟩ rfl hlr hl0.1 hst2 (lv_room hsum) (hd0 rfl) hf
              · obtain ⟨M3, g1, g2, g3, g4, g5⟩ := hlink
                rw [hM2] at g1
                cases g1
                obtain ⟨b0, b7, b8, b9, b10⟩ := ri_cb (args := args) (d := d) (mcT := mcT) (msT := msT) (mc := mc) (ms := ms) hSt.1 hLC hco hM2m g2
                rw [hw9] at b0 b7
                exact vx_runVN (As := r.map (ri_cv ρ sa ad)) (C := (ri_nm M2).cls) hcf hM9 ⟨⟨b0, b7, b8, b9, b10, hSt.1 _ g3 _⟩, hSt.1 _ g4 _, hSt.1 _ g5 _⟩ ⟨hbl, hre, hpre⟩ rfl hlr hl0.1 hst2 (lv_room hsum) (hd0 rfl) hf
            · rcases Nat.lt_or_ge sort 2 with h1 | h1
              · have h0 : sort = 1 := by omega
                subst h0
                have hlr : (as.map (ri_cv ρ sa ad)).length = n := by
                  rw [List.length_map]; exact hlen9
                rcases hkd with rfl | rfl
                · obtain ⟨M3, g1, g2, g3, g4⟩ := hlink
                  rw [hM2] at g1
                  cases g1
                  obtain ⟨⟨b1, b2, b3, b4, b5, b6⟩, b7, b8, b9, b10⟩ := ri_cb (args := args) (d := d) (mcT := mcT) (msT := msT) (mc := mc) (ms := ms) hSt.1 hLC hco hM2m g2
                  cases hh9 : ri_hh M2 with
                  | nil =>
                    have hw9 : ri_hw M2 = _ := ri_hw_nil (by rw [hh9]; rfl)
                    rw [hw9] at b5 b6 b7 hM9
                    exact vx_runS hcf hM9 ⟨⟨b1, b2, b3, b4, b5, b6, b7, b8, b9, b10, hSt.1 _ g3 _⟩, hSt.1 _ g4 _⟩ ⟨hbl, hpre⟩ rfl hlr hl0.1 hstk (lv_room hsum) (hd1 rfl) hf
                  | cons h9 t9 =>
                    have hw9 : ri_hw M2 = _ := ri_hw_cons hh9
                    rw [hw9] at b5 b6 b7 hM9
                    exact vx_runSX hcf hM9 ⟨⟨b1, b2, b3, b4, b5, b6⟩, b7, b8, b9, b10, hSt.1 _ g3 _, hSt.1 _ g4 _⟩ ⟨hbl, hpre⟩ rfl hlr hl0.1 hstk (lv_room hsum) (hd1 rfl) hf
                · have hw9 := ri_hw_nil (hhh.resolve_left (by omega))
                  rw [hw9] at hM9
                  obtain ⟨M3, g1, g2, g3, g4⟩ := hlink
                  rw [hM2] at g1
                  cases g1
                  obtain ⟨b0, b7, b8, b9, b10⟩ := ri_cb (args := args) (d := d) (mcT := mcT) (msT := msT) (mc := mc) (ms := ms) hSt.1 hLC hco hM2m g2
                  rw [hw9] at b0 b7
                  exact vx_runSN hcf hM9 ⟨⟨b0, b7, b8, b9, b10, hSt.1 _ g3 _⟩, hSt.1 _ g4 _, trivial⟩ ⟨hbl, hpre⟩ rfl hlr hl0.1 hstk (lv_room hsum) (hd1 rfl) hf
              · have h0 : sort = 2 := by omega
                subst h0
                obtain ⟨k, r, ci, fs, rr, rfl, hmk, hck, hrr⟩ := ri_recv_s (hrecv.resolve_left (by decide))
                have hlr : (r.map (ri_cv ρ sa ad)).length = n := by
                  rw [List.length_map]
                  have : r.length + 1 = n + 1 := hlen9
                  omega
                have hst2 : st.map (ri_cv ρ sa ad) = (r.map (ri_cv ρ sa ad)).reverse ++ .ref (ad k) :: (st.drop (n + 1)).map (ri_cv ρ sa ad) := by
                  rw [hstk]
                  show (Value.ref (ad k) :: r.map (ri_cv ρ sa ad)).reverse ++ _ = _
                  rw [List.reverse_cons, List.append_assoc]
                  rfl
                have hw9 := ri_hw_nil (hhh.resolve_left (fun z => by rcases hkd with h9 | h9 <;> omega))
                rw [hw9] at hM9
                rcases hkd with rfl | rfl
                · obtain ⟨M3, g1, g2, g3, g4, g5, g6⟩ := hlink
                  rw [hM2] at g1
                  cases g1
                  obtain ⟨⟨b1, b2, b3, b4, b5, b6⟩, b7, b8, b9, b10⟩ := ri_cb (args := args) (d := d) (mcT := mcT) (msT := msT) (mc := mc) (ms := ms) hSt.1 hLC hco hM2m g2
                  rw [hw9] at b5 b6 b7
                  rw [g6] at b5 b6 b7 hM9
                  exact vx_runI (As := r.map (ri_cv ρ sa ad)) hcf hM9 ⟨⟨b1, b2, b3, b4, b5, b6, b7, b8, b9, b10, hSt.1 _ g3 _⟩, g5, hSt.1 _ g4 _⟩ ⟨hbl, hpre⟩ rfl hlr hl0.1 hst2 (lv_room hsum) (hd2 rfl) hf
                · obtain ⟨M3, g1, g2, g3, g4, g5, g6⟩ := hlink
                  rw [hM2] at g1
                  cases g1
                  obtain ⟨b0, b7, b8, b9, b10⟩ := ri_cb (args := args) (d := d) (mcT := mcT) (msT := msT) (mc := mc) (ms := ms) hSt.1 hLC hco hM2m g2
                  rw [hw9] at b0 b7
                  rw [g6] at b0 b7 hM9
                  exact vx_runIN (As := r.map (ri_cv ρ sa ad)) hcf hM9 ⟨⟨b0, b7, b8, b9, b10, hSt.1 _ g3 _⟩, g5, hSt.1 _ g4 _⟩ ⟨hbl, hpre⟩ rfl hlr hl0.1 hst2 (lv_room hsum) (hd2 rfl) hf
          · cases h
        · cases h
      · cases h
    · next hkd =>
      split at h
      · next hk7 =>
        subst hk7
        split at h
        · next k r =>
          split at h
          · next hs =>
            obtain ⟨rfl, hr4⟩ := hs
            obtain ⟨g1, g2, g3⟩ := hlink
            have hsum := ri_sum4 (ρ := ρ) (sa := sa) (ad := ad) hr4
            have hgo := hK _ _ _ _ _ _ h ad ls H locs cells slots hag hn hl0 hP hD hS hok hlv (fun t ht => hst t (List.mem_cons_of_mem _ ht)) hsat hLT hc1 hs1 hob
            refine W.objInit hx hb hown (hts _ g1) (hts _ g2) (hts _ g3) rfl (hl0.1.trans hml.symm) rfl (hd2 rfl) ?_ ?_ ?_
            · show 1 ≤ d + 1 + 5
              omega
            · have := lv_room (m := m) (pc := pc) (ls := ls) (rest := (r.map (ri_cv ρ sa ad))) hsum
              show 2 * (F0 m pc ls _).monitorRoom + _ + 12 ≤ 150 + (d + 1) * LC
              have e0 : (F0 m pc ls ((.index k :: r : List Jvm.Term).map (ri_cv ρ sa ad))).monitorRoom = 0 := rfl
              rw [e0]
              omega
            · exact W.eq (g2 := F0 m (pc + 3) ls (r.map (ri_cv ρ sa ad))) rfl hgo
          · cases h
        · cases h
      · split at h
        · next hk10 =>
          subst hk10
          split at h
          · next y x r =>
            split at h
            · next hs =>
              obtain ⟨rfl, hx0, hy0, hr4⟩ := hs
              obtain ⟨g1, g2, g3, g4⟩ := hlink
              have hsum := ri_sum4 (ρ := ρ) (sa := sa) (ad := ad) hr4
              rw [List.map_cons, List.map_cons, ri_ivI hx0, ri_ivI hy0]
              refine va_mmax hx hb (hml.trans hl0.1.symm) hown (hts _ g1) (hts _ g2) (hts _ g3) (hts _ g4) (by show 1 ≤ d + 1 + 5; omega) (by show _ ≤ 150 + (d + 1) * LC; omega) (by show cells ≤ mcT; omega) (by show slots ≤ msT; omega) (hd1 rfl) ?_
              rcases ri_br_s hsat h with ⟨h1, cs', q1, h2, h3', h4⟩ | ⟨h1, cs', q1, h2, h3', h4⟩
              · rw [if_pos ((ri_sat_lt.mp h1).mp rfl)]
                have hgo := ri_So_le (hK _ _ _ _ _ _ h2) h4 ad ls H locs cells slots hag hn hl0 hP hD hS hok hlv (fun t ht => hst t (by
                  rcases List.mem_cons.mp ht with rfl | ht
                  · exact List.mem_cons_self
                  · exact List.mem_cons_of_mem _ (List.mem_cons_of_mem _ ht))) h3' hLT hc1 hs1 hob
                rw [List.map_cons, ri_ivI hy0] at hgo
                exact hgo
              · rw [if_neg (fun z => h1 (ri_sat_lt.mpr ⟨fun _ => z, fun _ => rfl⟩))]
                have hgo := ri_So_le (hK _ _ _ _ _ _ h2) h4 ad ls H locs cells slots hag hn hl0 hP hD hS hok hlv (fun t ht => hst t (List.mem_cons_of_mem _ ht)) h3' hLT hc1 hs1 hob
                rw [List.map_cons, ri_ivI hx0] at hgo
                exact hgo
            · cases h
          · cases h
        · split at h
          · next hk11 =>
            subst hk11
            split at h
            · next y x r =>
              split at h
              · next hs =>
                obtain ⟨rfl, hx0, hy0, hr4⟩ := hs
                obtain ⟨g1, g2, g3, g4⟩ := hlink
                have hsum := ri_sum4 (ρ := ρ) (sa := sa) (ad := ad) hr4
                rw [List.map_cons, List.map_cons, ri_ivI hx0, ri_ivI hy0]
                refine va_mmin hx hb (hml.trans hl0.1.symm) hown (hts _ g1) (hts _ g2) (hts _ g3) (hts _ g4) (by show 1 ≤ d + 1 + 5; omega) (by show _ ≤ 150 + (d + 1) * LC; omega) (by show cells ≤ mcT; omega) (by show slots ≤ msT; omega) (hd1 rfl) ?_
                rcases ri_br_s hsat h with ⟨h1, cs', q1, h2, h3', h4⟩ | ⟨h1, cs', q1, h2, h3', h4⟩
                · rw [if_pos ((ri_sat_lt.mp h1).mp rfl)]
                  have hgo := ri_So_le (hK _ _ _ _ _ _ h2) h4 ad ls H locs cells slots hag hn hl0 hP hD hS hok hlv (fun t ht => hst t (by
                    rcases List.mem_cons.mp ht with rfl | ht
                    · exact List.mem_cons_self
                    · exact List.mem_cons_of_mem _ (List.mem_cons_of_mem _ ht))) h3' hLT hc1 hs1 hob
                  rw [List.map_cons, ri_ivI hy0] at hgo
                  exact hgo
                · rw [if_neg (fun z => h1 (ri_sat_lt.mpr ⟨fun _ => z, fun _ => rfl⟩))]
                  have hgo := ri_So_le (hK _ _ _ _ _ _ h2) h4 ad ls H locs cells slots hag hn hl0 hP hD hS hok hlv (fun t ht => hst t (List.mem_cons_of_mem _ ht)) h3' hLT hc1 hs1 hob
                  rw [List.map_cons, ri_ivI hx0] at hgo
                  exact hgo
              · cases h
            · cases h
          · cases h
  · cases h
end RIY1
end RIY
end
section
/-! RI: the whole run is sound; a contract for each call that runs through -/
section RIZ
section RIZ1
variable {p : Program} {l : Launch} {e : Env} {R : Room} {s : State} {m : MethodId} {args : Array Value} {below : List Frame} {meth : Method} {c : Code}
variable {ALL : List Jvm.Cond} {STR : List (String × Nat × String)} {G : ri_Tb} {M : ri_Mt} {D : va_G} {tyc : Nat → ClassId} {A : Nat → Prop}
variable {ρ : Nat → Int32} {sa : String → Nat → Nat} {n0 LC d mcT msT : Nat} {ad0 : Nat → Nat} {LT : List ri_Lf} {lv : List (Nat × Jvm.Term)} {st rest : List Jvm.Term} {mem : ri_Me} {pc idx len : Nat} {cs : List ri_Cd} {rs r1 : ri_Rs} {K : ri_K} {call : ri_Call}
theorem ri_ans_s {ok : Jvm.Term → Option FieldType → Bool} (h : ri_ans M st cs mem ok = some rs) : ∃ t, st = [t] ∧ ok t (ri_rt M) = true ∧ rs = ([(cs, mem, .inl (some t))], 0, 0, []) := by
  unfold ri_ans at h
  split at h
  · next t =>
    split at h
    · next hk => cases h; exact ⟨t, rfl, hk, rfl⟩
    · cases h
  · cases h
theorem ri_ofI {z : Int} (h1 : -2147483648 ≤ z) (h2 : z < 2147483648) : (Int32.ofInt z).toInt = z := by
  rw [Int32.toInt_ofInt]
  have : z.bmod (2 ^ 32) = z := by
    rw [Int.bmod_def]
    split <;> omega
  exact this
theorem ri_jump (h : ri_So p l e R s m args below meth c G M D tyc A ρ sa n0 ad0 LT mcT msT pc lv st cs mem rs) : ri_So p l e R s m args below meth c G M D tyc A ρ sa n0 ad0 LT mcT msT pc lv st cs mem rs := h
theorem ri_ctl_W {i : Instr} (hC : ri_Cx l ALL STR sa G M D tyc A p s m args meth c R LC d mcT msT) (hK : ∀ pc lv st cs mem rs, K pc lv st cs mem = some rs → ri_So p l e R s m args below meth c G M D tyc A ρ sa n0 ad0 LT mcT msT pc lv st cs mem rs)
    (hcall : ∀ mi as cs mem rs, call mi as cs mem = some rs → ri_Con l ALL STR G LC d mi as cs mem rs) (hcode : ∀ pc i len, (ri_co M)[pc]? = some (some (i, len)) → decode (ri_by M) pc = .ok (i, len))
    (hd : decode (ri_by M) pc = .ok (i, len)) (h : ri_ctl G call M K pc i len lv st cs mem = some rs) : ri_So p l e R s m args below meth c G M D tyc A ρ sa n0 ad0 LT mcT msT pc lv st cs mem rs := by
  have hC0 := hC
  obtain ⟨⟨⟨hx, hb, hml, hown, hin⟩, hM, hcl, hlk, hts, hKK, hA, hstr⟩, hSt, hwm, hr, hlocks, hex, hl, rfl, hLC, hco, hcs⟩ := hC
  cases i with
  | goto off =>
    simp only [ri_ctl] at h
    split at h
    · next t ht =>
      split at h
      · next h3 =>
        subst h3
        intro ad ls H locs cells slots h1 h2 h3 h4 h5 h6 h7 h8 h9 h10 h11 h12 h13 h14
        exact lv_goto hx hb hd (ri_tg_s ht) (hK _ _ _ _ _ _ h ad ls H locs cells slots h1 h2 h3 h4 h5 h6 h7 h8 h9 h10 h11 h12 h13 h14)
      · cases h
    · cases h
  | ifCond cnd off =>
    simp only [ri_ctl] at h
    split at h
    · next a r t ht =>
      split at h
      · next hk =>
        obtain ⟨ha, rfl⟩ := hk
        intro ad ls H locs cells slots h1 h2 h3 h4 h5 h6 h7 h8 h9 h10 h11 h12 h13 h14
        have h9' : ∀ z ∈ r, ri_ok mem.length z := fun z hz => h9 z (List.mem_cons_of_mem _ hz)
        refine ri_if_W hx hb hd (ri_tg_s ht) ha (fun hs => ?_) (fun hs => ?_)
        · rcases ri_br_s h10 h with ⟨g1, cs', q1, g2, g3, g4⟩ | ⟨g1, cs', q1, g2, g3, g4⟩
          · exact ri_So_le (hK _ _ _ _ _ _ g2) g4 ad ls H locs cells slots h1 h2 h3 h4 h5 h6 h7 h8 h9' g3 h11 h12 h13 h14
          · exact absurd hs g1
        · rcases ri_br_s h10 h with ⟨g1, cs', q1, g2, g3, g4⟩ | ⟨g1, cs', q1, g2, g3, g4⟩
          · exact absurd g1 hs
          · exact ri_So_le (hK _ _ _ _ _ _ g2) g4 ad ls H locs cells slots h1 h2 h3 h4 h5 h6 h7 h8 h9' g3 h11 h12 h13 h14
      · cases h
    · cases h
  | if_icmp cnd off =>
    simp only [ri_ctl] at h
    split at h
    · next b a r t ht =>
      split at h
      · next hk =>
        obtain ⟨ha, hb2, rfl⟩ := hk
        intro ad ls H locs cells slots h1 h2 h3 h4 h5 h6 h7 h8 h9 h10 h11 h12 h13 h14
        have h9' : ∀ z ∈ r, ri_ok mem.length z := fun z hz => h9 z (List.mem_cons_of_mem _ (List.mem_cons_of_mem _ hz))
        refine ri_ic_W hx hb hd (ri_tg_s ht) ha hb2 (fun hs => ?_) (fun hs => ?_)
        · rcases ri_br_s h10 h with ⟨g1, cs', q1, g2, g3, g4⟩ | ⟨g1, cs', q1, g2, g3, g4⟩
          · exact ri_So_le (hK _ _ _ _ _ _ g2) g4 ad ls H locs cells slots h1 h2 h3 h4 h5 h6 h7 h8 h9' g3 h11 h12 h13 h14
          · exact absurd hs g1
        · rcases ri_br_s h10 h with ⟨g1, cs', q1, g2, g3, g4⟩ | ⟨g1, cs', q1, g2, g3, g4⟩
          · exact absurd g1 hs
          · exact ri_So_le (hK _ _ _ _ _ _ g2) g4 ad ls H locs cells slots h1 h2 h3 h4 h5 h6 h7 h8 h9' g3 h11 h12 h13 h14
      · cases h
    · cases h
  | ifnull off =>
    simp only [ri_ctl] at h
    split at h
    · next a r t ht =>
      split at h
      · next h3 =>
        subst h3
        intro ad ls H locs cells slots h1 h2 h3 h4 h5 h6 h7 h8 h9 h10 h11 h12 h13 h14
        have h9' : ∀ z ∈ r, ri_ok mem.length z := fun z hz => h9 z (List.mem_cons_of_mem _ hz)
        split at h
        · next hk =>
          rw [List.map_cons, ri_N hk]
          exact lv_ifnullN hx hb hd (ri_tg_s ht) (hK _ _ _ _ _ _ h ad ls H locs cells slots h1 h2 h3 h4 h5 h6 h7 h8 h9' h10 h11 h12 h13 h14)
        · split at h
          · next hk =>
            obtain ⟨x, hx9⟩ := ri_R (ρ := ρ) (sa := sa) (ad := ad) hk
            rw [List.map_cons, hx9]
            exact lv_ifnull hx hb hd (hK _ _ _ _ _ _ h ad ls H locs cells slots h1 h2 h3 h4 h5 h6 h7 h8 h9' h10 h11 h12 h13 h14)
          · cases h
      · cases h
    · cases h
  | ifnonnull off =>
    simp only [ri_ctl] at h
    split at h
    · next a r t ht =>
      split at h
      · next h3 =>
        subst h3
        intro ad ls H locs cells slots h1 h2 h3 h4 h5 h6 h7 h8 h9 h10 h11 h12 h13 h14
        have h9' : ∀ z ∈ r, ri_ok mem.length z := fun z hz => h9 z (List.mem_cons_of_mem _ hz)
        split at h
        · next hk =>
          obtain ⟨x, hx9⟩ := ri_R (ρ := ρ) (sa := sa) (ad := ad) hk
          rw [List.map_cons, hx9]
          exact lv_ifnonnull hx hb hd (ri_tg_s ht) (hK _ _ _ _ _ _ h ad ls H locs cells slots h1 h2 h3 h4 h5 h6 h7 h8 h9' h10 h11 h12 h13 h14)
        · split at h
          · next hk =>
            rw [List.map_cons, ri_N hk]
            exact lv_ifnonnullN hx hb hd (hK _ _ _ _ _ _ h ad ls H locs cells slots h1 h2 h3 h4 h5 h6 h7 h8 h9' h10 h11 h12 h13 h14)
          · cases h
      · cases h
    · cases h
  | tableswitch dflt lo hi offs =>
    simp only [ri_ctl] at h
    split at h
    · next x r =>
      split at h
      · next hk =>
        obtain ⟨hk0, hhi, hlo1, hhi1⟩ := hk
        intro ad ls H locs cells slots h1 h2 h3 h4 h5 h6 h7 h8 h9 h10 h11 h12 h13 h14
        have h9' : ∀ z ∈ r, ri_ok mem.length z := fun z hz => h9 z (List.mem_cons_of_mem _ hz)
        obtain ⟨off, t, cs', q1, g1, g2, g3, g4, g5⟩ := ri_chain_s _ _ h10 h
        have hgo := ri_So_le (hK _ _ _ _ _ _ g2) g4 ad ls H locs cells slots h1 h2 h3 h4 h5 h6 h7 h8 h9' g3 h11 h12 h13 h14
        rw [List.map_cons, ri_ivI hk0]
        rcases g5 with ⟨j, v, k1, k2, -⟩ | ⟨k1, k2⟩
        · rw [List.getElem?_mapIdx] at k1
          obtain ⟨o, ho, he⟩ := Option.map_eq_some_iff.mp k1
          cases he
          have hj : j < offs.size := by
            have := (List.getElem?_eq_some_iff.mp ho).1
            simpa using this
          have hv : (ri_iv ρ x).toInt = lo + (j : Int) := by rw [k2]; exact ri_ofI (by omega) (by omega)
          refine lv_tableIn hx hb hd (by omega) (by omega) ?_ (ri_tg_s g1) hgo
          have e9 : ((ri_iv ρ x).toInt - lo).toNat = j := by omega
          rw [e9]
          simpa using ho
        · subst k1
          refine lv_tableOut hx hb hd ?_ (ri_tg_s g1) hgo
          rcases Int.lt_or_le (ri_iv ρ x).toInt lo with z | z
          · exact Or.inl z
          · rcases Int.lt_or_le hi (ri_iv ρ x).toInt with y | y
            · exact Or.inr y
            · exfalso
              have hj : ((ri_iv ρ x).toInt - lo).toNat < offs.toList.length := by
                rw [Array.length_toList]; omega
              refine k2 ((ri_iv ρ x).toInt - lo).toNat _ _ (by rw [List.getElem?_mapIdx, List.getElem?_eq_getElem hj]; rfl) ?_
              have e9 : lo + (((ri_iv ρ x).toInt - lo).toNat : Int) = (ri_iv ρ x).toInt := by omega
              rw [e9]
              exact (Int32.ofInt_toInt _).symm
      · cases h
    · cases h
  | ireturn =>
    simp only [ri_ctl] at h
    split at h
    · next h3 =>
      subst h3
      obtain ⟨t, rfl, hok9, rfl⟩ := ri_ans_s h
      intro ad ls H locs cells slots h1 h2 h3 h4 h5 h6 h7 h8 h9 h10 h11 h12 h13 h14
      have hE := fun t9 (ht9 : t9.heap = H) => ri_end (args := args) (tm := some t) (cs := cs) (t := t9) h1 h2 h4 h5 h6 h7 (fun z hz => by cases hz; exact h9 t List.mem_cons_self) h10 (h11 _ List.mem_cons_self) ht9
      refine vx_ret (W.widen h12 h13 ?_)
      cases hrt : ri_rt M with
      | none => rw [hrt] at hok9; exact absurd hok9 (by simp [ri_okI])
      | some ty =>
        rw [hrt] at hok9
        have hr2 := hr.trans hrt
        cases ty with
        | int =>
          have hk : ri_k t = 0 := by simpa [ri_okI] using hok9
          simp only [List.map_cons, List.map_nil, Option.map_some] at hE ⊢
          rw [ri_I hk] at hE ⊢
          exact W.iret hx hb hr2 (fun t9 ht9 _ => hE t9 ht9) h6.2.2 hd hlocks
        | boolean =>
          obtain ⟨q1, q2⟩ := ri_fit_s (ρ := ρ) (sa := sa) (ad := ad) (ty := .boolean) (t := t) hok9
          have hk : ri_k t = 0 := by
            simp only [ri_okI, ri_fit] at hok9
            split at hok9
            · rfl
            · cases hok9
          simp only [List.map_cons, List.map_nil, Option.map_some] at hE ⊢
          rw [ri_I hk] at hE q1 ⊢
          exact W.zret hx hb hr2 q1 (fun t9 ht9 _ => hE t9 ht9) h6.2.2 hd hlocks
        | _ => exact absurd hok9 (by simp [ri_okI])
    · cases h
  | areturn =>
    simp only [ri_ctl] at h
    split at h
    · next h3 =>
      subst h3
      obtain ⟨t, rfl, hok9, rfl⟩ := ri_ans_s h
      intro ad ls H locs cells slots h1 h2 h3 h4 h5 h6 h7 h8 h9 h10 h11 h12 h13 h14
      have hE := fun t9 (ht9 : t9.heap = H) => ri_end (args := args) (tm := some t) (cs := cs) (t := t9) h1 h2 h4 h5 h6 h7 (fun z hz => by cases hz; exact h9 t List.mem_cons_self) h10 (h11 _ List.mem_cons_self) ht9
      refine vx_ret (W.widen h12 h13 ?_)
      cases hrt : ri_rt M with
      | none => rw [hrt] at hok9; exact absurd hok9 (by simp [ri_okA])
      | some ty =>
        rw [hrt] at hok9
        have hr2 := hr.trans hrt
        have hk : (ri_k t = 2 ∨ ri_k t = 3) ∧ ((∃ n, ty = .object n) ∨ ∃ z, ty = .array z) := by
          cases ty with
          | object n => simp [ri_okA] at hok9; exact ⟨hok9, Or.inl ⟨n, rfl⟩⟩
          | array n => simp [ri_okA] at hok9; exact ⟨hok9, Or.inr ⟨n, rfl⟩⟩
          | _ => exact absurd hok9 (by simp [ri_okA])
        have hv : ri_cv ρ sa ad t = .null ∨ ∃ a, ri_cv ρ sa ad t = .ref a := by
          rcases hk.1 with h0 | h0
          · exact Or.inr (ri_R h0)
          · exact Or.inl (ri_N h0)
        simp only [List.map_cons, List.map_nil, Option.map_some] at hE ⊢
        exact W.aret hx hb hr2 hk.2 hv (fun t9 ht9 _ => hE t9 ht9) h6.2.2 hd hlocks
    · cases h
  | dreturn =>
    simp only [ri_ctl] at h
    split at h
    · next h3 =>
      subst h3
      obtain ⟨t, rfl, hok9, rfl⟩ := ri_ans_s h
      intro ad ls H locs cells slots h1 h2 h3 h4 h5 h6 h7 h8 h9 h10 h11 h12 h13 h14
      have hE := fun t9 (ht9 : t9.heap = H) => ri_end (args := args) (tm := some t) (cs := cs) (t := t9) h1 h2 h4 h5 h6 h7 (fun z hz => by cases hz; exact h9 t List.mem_cons_self) h10 (h11 _ List.mem_cons_self) ht9
      refine vx_ret (W.widen h12 h13 ?_)
      cases hrt : ri_rt M with
      | none => rw [hrt] at hok9; exact absurd hok9 (by simp [ri_okD])
      | some ty =>
        rw [hrt] at hok9
        have hr2 := hr.trans hrt
        cases ty with
        | double =>
          have hk : ri_k t = 4 := by simpa [ri_okD] using hok9
          obtain ⟨b9, hb9⟩ := ri_Dd (ρ := ρ) (sa := sa) (ad := ad) hk
          simp only [List.map_cons, List.map_nil, Option.map_some] at hE ⊢
          rw [hb9] at hE ⊢
          exact W.dret hx hb hr2 (fun t9 ht9 _ => hE t9 ht9) h6.2.2 hd hlocks
        | _ => exact absurd hok9 (by simp [ri_okD])
    · cases h
  | freturn =>
    simp only [ri_ctl] at h
    split at h
    · next h3 =>
      subst h3
      obtain ⟨t, rfl, hok9, rfl⟩ := ri_ans_s h
      intro ad ls H locs cells slots h1 h2 h3 h4 h5 h6 h7 h8 h9 h10 h11 h12 h13 h14
      have hE := fun t9 (ht9 : t9.heap = H) => ri_end (args := args) (tm := some t) (cs := cs) (t := t9) h1 h2 h4 h5 h6 h7 (fun z hz => by cases hz; exact h9 t List.mem_cons_self) h10 (h11 _ List.mem_cons_self) ht9
      refine vx_ret (W.widen h12 h13 ?_)
      cases hrt : ri_rt M with
      | none => rw [hrt] at hok9; exact absurd hok9 (by simp [ri_okF])
      | some ty =>
        rw [hrt] at hok9
        have hr2 := hr.trans hrt
        cases ty with
        | float =>
          have hk : ri_k t = 5 := by simpa [ri_okF] using hok9
          obtain ⟨b9, hb9⟩ := ri_Ff (ρ := ρ) (sa := sa) (ad := ad) hk
          simp only [List.map_cons, List.map_nil, Option.map_some] at hE ⊢
          rw [hb9] at hE ⊢
          exact W.fret hx hb hr2 (fun t9 ht9 _ => hE t9 ht9) h6.2.2 hd hlocks
        | _ => exact absurd hok9 (by simp [ri_okF])
    · cases h
  | return_ =>
    simp only [ri_ctl] at h
    split at h
    · next hrt =>
      split at h
      · next h3 =>
        subst h3
        cases h
        intro ad ls H locs cells slots h1 h2 h3 h4 h5 h6 h7 h8 h9 h10 h11 h12 h13 h14
        have hE := fun t9 (ht9 : t9.heap = H) => ri_end (args := args) (tm := none) (cs := cs) (t := t9) h1 h2 h4 h5 h6 h7 (fun z hz => by cases hz) h10 (h11 _ List.mem_cons_self) ht9
        refine vx_ret (W.widen h12 h13 ?_)
        exact W.vret hx hb (hr.trans hrt) (fun t9 ht9 _ => hE t9 ht9) h6.2.2 hd hlocks
      · cases h
    · cases h
  | new ik =>
    simp only [ri_ctl] at h
    split at h
    · next h3 =>
      subst h3
      exact ri_thr_W hC0 hcode h hd
    · cases h
  | invokevirtual idx =>
    simp only [ri_ctl] at h
    split at h
    · next h3 =>
      subst h3
      exact ri_inv_W 0 hC0 hK hcall (fun _ => hd) (fun q => by cases q) (fun q => by cases q) (by decide) hcode h
    · cases h
  | invokestatic idx =>
    simp only [ri_ctl] at h
    split at h
    · next h3 =>
      subst h3
      exact ri_inv_W 1 hC0 hK hcall (fun q => by cases q) (fun _ => hd) (fun q => by cases q) (by decide) hcode h
    · cases h
  | invokespecial idx =>
    simp only [ri_ctl] at h
    split at h
    · next h3 =>
      subst h3
      exact ri_inv_W 2 hC0 hK hcall (fun q => by cases q) (fun q => by cases q) (fun _ => hd) (by decide) hcode h
    · cases h
  | _ => exact absurd h (by simp [ri_ctl])
theorem ri_heap_W (hsc : ri_hsc M ρ sa A s) {x : ri_H1} {i : Instr} {ad : Nat → Nat} {ls : Array Slot} {H : Heap} {locs : List Loc} {cells slots : Nat} {Q : State → Prop} (hac : ∀ t : ArrayType, ri_isI (newarray.typeOf t) = true → Jvm.Cond.arrayClass (newarray.typeOf t) ∈ ALL) (hC : ri_Ctx ALL STR sa G M D tyc A p s m args meth c) (h : ri_heap G M cs i st mem = some x) (hd : decode (ri_by M) pc = .ok (i, x.1)) (hP : va_P D (ri_cls G) (ri_w ρ sa (ri_aty G) tyc ad mem) H) (hD : va_D A (ri_w ρ sa (ri_aty G) tyc ad mem)) (hS : va_S A s.heap H locs) (hok : ri_okM mem.length mem) (hst : ∀ t ∈ st, ri_ok mem.length t)
    (hsat : ∀ q ∈ cs, ri_sat ρ q) (hob : ∀ o ∈ x.2.2.2.2.2, ri_obs ρ o) (hls : ls.size = ri_mx M) (hR1 : 1 ≤ R.frames) (hR2 : 100 ≤ R.locals) (hc1 : cells + x.2.2.2.1 ≤ R.cells) (hs1 : slots + x.2.2.2.2.1 ≤ R.slots)
    (kk : ri_KK p l e R s m args below meth c cells slots Q G D tyc A ρ sa ad mem ls pc x) : W p l e R s m args below meth c H locs cells slots Q (F0 m pc ls (st.map (ri_cv ρ sa ad))) := by
  have hlk := hC.2.2.2.1
  have hM := hC.2.1
  cases i with
  | getfield idx => exact ri_getf_W hC h hd hP hD hS hok hst kk
  | putfield idx => exact ri_putf_W hC h hd hP hD hS hok hst kk
  | iaload =>
    simp only [ri_heap] at h
    split at h
    · next x9 hx9 => cases h; exact ri_sld_W hsc hC hx9 hd hP hD hS hok hst kk
    · exact ri_iald_W hC h hd hP hD hS hok hst hsat hob kk
  | iastore => exact ri_iast_W hC h hd hP hD hS hok hst kk
  | laload => exact ri_lald_W hC h hd hP hD hS hok hst kk
  | lastore => exact ri_last_W hC h hd hP hD hS hok hst kk
  | ldc2_w idx => exact ri_ldc2_W hC h hd hP hD hS hok hst kk
  | aaload => exact ri_aald_W hC h hd hP hD hS hok hst kk
  | aastore => exact ri_aast_W hC h hd hP hD hS hok hst kk
  | arraylength =>
    simp only [ri_heap] at h
    split at h
    · next x9 hx9 => cases h; exact ri_slen_W hsc hC hx9 hd hP hD hS hok hst kk
    · exact ri_alen_W hC h hd hP hD hS hok hst kk
  | new idx => exact ri_newo_W hC h hd hP hD hS hok hst hc1 hs1 kk
  | newarray t =>
    have h0 : ri_newr G (ri_typeOf t) 2 st mem = some x := h
    obtain ⟨v, r, a, e1, e2, hi, e3, e4, rfl⟩ := ri_newr_s h0
    exact ri_newa_W hC (hac t hi) h0 hd hP hD hS hok hst hc1 hs1 kk
  | anewarray idx =>
    simp only [ri_heap] at h
    split at h
    · next a b tx hcp =>
      obtain ⟨C, g1, g2, g3⟩ := ri_cp_s hlk hM hcp
      rw [Nat.add_sub_cancel] at g2
      rw [g1] at h
      have h0 : ri_newr G (.object C) 3 st mem = some x := h
      obtain ⟨v, r, a2, e1, e2, hi, e3, e4, rfl⟩ := ri_newr_s h0
      exact ri_newq_W (a := a) (ty := .object C) hC g2 g3 h0 hd hP hD hS hok hst hc1 hs1 kk
    · cases h
  | ldc idx => exact ri_ldc_W hC h hd hP hD hS hok hst kk
  | ldc_w idx => exact ri_ldcw_W hC h hd hP hD hS hok hst kk
  | invokestatic idx =>
    simp only [ri_heap] at h
    split at h
    · next a b tx hcp =>
      exact ri_acpy_W hC (ri_cp_s hlk hM hcp) h hd hP hD hS hok hst hls hR1 hR2 kk
    · cases h
  | _ => exact absurd h (by simp [ri_heap])
theorem ri_bin_ok {n : Nat} {f : Int32 → Int32 → Int32} {t a b : Jvm.Term} (h : ri_ok n t) : ri_ok n (ri_bin f t a b) := by
  unfold ri_bin
  split
  · rw [ri_ci_eq]; trivial
  · exact h
theorem ri_binL_ok {n : Nat} {f : Int64 → Int64 → Int64} {t a b : Jvm.Term} (h : ri_ok n t) : ri_ok n (ri_binL f t a b) := by
  unfold ri_binL
  split
  · rw [ri_cl_eq]; trivial
  · exact h
theorem ri_binC_ok {n : Nat} {t a b : Jvm.Term} (h : ri_ok n t) : ri_ok n (ri_binC t a b) := by
  unfold ri_binC
  split
  · rw [ri_ci_eq]; trivial
  · exact h
theorem ri_un_ok {n : Nat} {f : Int32 → Int32} {t a : Jvm.Term} (h : ri_ok n t) : ri_ok n (ri_un f t a) := by
  unfold ri_un
  split
  · rw [ri_ci_eq]; trivial
  · exact h
theorem ri_unIL_ok {n : Nat} {f : Int32 → Int64} {t a : Jvm.Term} (h : ri_ok n t) : ri_ok n (ri_unIL f t a) := by
  unfold ri_unIL
  split
  · rw [ri_cl_eq]; trivial
  · exact h
theorem ri_unLI_ok {n : Nat} {f : Int64 → Int32} {t a : Jvm.Term} (h : ri_ok n t) : ri_ok n (ri_unLI f t a) := by
  unfold ri_unLI
  split
  · rw [ri_ci_eq]; trivial
  · exact h
theorem ri_ci_ok {n : Nat} {x : Int32} : ri_ok n (ri_ci x) := by rw [ri_ci_eq]; trivial
theorem ri_cl_ok {n : Nat} {x : Int64} : ri_ok n (ri_cl x) := by rw [ri_cl_eq]; trivial
theorem ri_all_cons {n : Nat} {t : Jvm.Term} {st : List Jvm.Term} (h : ri_ok n t) (hs : ∀ z ∈ st, ri_ok n z) : ∀ z ∈ t :: st, ri_ok n z := fun z hz => by
  rcases List.mem_cons.mp hz with rfl | hz
  · exact h
  · exact hs z hz
theorem ri_all_tl {n : Nat} {t : Jvm.Term} {st : List Jvm.Term} (hs : ∀ z ∈ t :: st, ri_ok n z) : ∀ z ∈ st, ri_ok n z := fun z hz => hs z (List.mem_cons_of_mem _ hz)
theorem ri_sto_ok {n i : Nat} {lv : List (Nat × Jvm.Term)} {t : Jvm.Term} (h : ri_ok n t) (hs : ∀ q ∈ lv, ri_ok n q.2) : ∀ q ∈ ri_sto lv i t, ri_ok n q.2 := fun q hq => by
  rcases List.mem_cons.mp hq with rfl | hq
  · exact h
  · exact hs q (List.mem_filter.mp hq).1
theorem ri_sto2_ok {n i : Nat} {lv : List (Nat × Jvm.Term)} {t : Jvm.Term} (h : ri_ok n t) (hs : ∀ q ∈ lv, ri_ok n q.2) : ∀ q ∈ ri_sto2 lv i t, ri_ok n q.2 := fun q hq => by
  rcases List.mem_cons.mp hq with rfl | hq
  · exact h
  · exact hs q (List.mem_filter.mp hq).1
theorem ri_pure_ok {nL : Nat} {i : Instr} {lv lv' : List (Nat × Jvm.Term)} {st st' : List Jvm.Term} {n len : Nat} (h : ri_pure nL i lv st = some (len, lv', st')) (hlv : ∀ q ∈ lv, ri_ok n q.2) (hst : ∀ t ∈ st, ri_ok n t) : (∀ q ∈ lv', ri_ok n q.2) ∧ ∀ t ∈ st', ri_ok n t := by
  have LD : ∀ {k t}, ri_ld lv k = some t → ri_ok n t := fun h => hlv _ (ri_ld_mem h)
  cases i with
  | iconst k => cases h; exact ⟨hlv, ri_all_cons ri_ci_ok hst⟩
  | bipush k => cases h; exact ⟨hlv, ri_all_cons ri_ci_ok hst⟩
  | sipush k => cases h; exact ⟨hlv, ri_all_cons ri_ci_ok hst⟩
  | lconst k => cases h; exact ⟨hlv, ri_all_cons ri_cl_ok hst⟩
  | aconst_null => cases h; exact ⟨hlv, ri_all_cons trivial hst⟩
  | iload k => obtain ⟨t, h1, h2, rfl, rfl, rfl⟩ := ri_pl_s h; exact ⟨hlv, ri_all_cons (LD h1) hst⟩
  | iload_n k => obtain ⟨t, h1, h2, rfl, rfl, rfl⟩ := ri_pl_s h; exact ⟨hlv, ri_all_cons (LD h1) hst⟩
  | lload k => obtain ⟨t, h1, h2, rfl, rfl, rfl⟩ := ri_pl_s h; exact ⟨hlv, ri_all_cons (LD h1) hst⟩
  | lload_n k => obtain ⟨t, h1, h2, rfl, rfl, rfl⟩ := ri_pl_s h; exact ⟨hlv, ri_all_cons (LD h1) hst⟩
  | aload k => obtain ⟨t, h1, h2, rfl, rfl, rfl⟩ := ri_pa_s h; exact ⟨hlv, ri_all_cons (LD h1) hst⟩
  | aload_n k => obtain ⟨t, h1, h2, rfl, rfl, rfl⟩ := ri_pa_s h; exact ⟨hlv, ri_all_cons (LD h1) hst⟩
  | istore k => obtain ⟨t, rfl, h2, h3, rfl, rfl⟩ := ri_ps_s h; exact ⟨ri_sto_ok (hst t List.mem_cons_self) hlv, ri_all_tl hst⟩
  | istore_n k => obtain ⟨t, rfl, h2, h3, rfl, rfl⟩ := ri_ps_s h; exact ⟨ri_sto_ok (hst t List.mem_cons_self) hlv, ri_all_tl hst⟩
  | lstore k => obtain ⟨t, rfl, h2, h3, rfl, rfl⟩ := ri_ps2_s h; exact ⟨ri_sto2_ok (hst t List.mem_cons_self) hlv, ri_all_tl hst⟩
  | lstore_n k => obtain ⟨t, rfl, h2, h3, rfl, rfl⟩ := ri_ps2_s h; exact ⟨ri_sto2_ok (hst t List.mem_cons_self) hlv, ri_all_tl hst⟩
  | astore k => obtain ⟨t, rfl, h2, h3, rfl, rfl⟩ := ri_psa_s h; exact ⟨ri_sto_ok (hst t List.mem_cons_self) hlv, ri_all_tl hst⟩
  | astore_n k => obtain ⟨t, rfl, h2, h3, rfl, rfl⟩ := ri_psa_s h; exact ⟨ri_sto_ok (hst t List.mem_cons_self) hlv, ri_all_tl hst⟩
  | iinc k v => obtain ⟨t, h1, h2, h3, rfl, rfl, rfl⟩ := ri_inc_s h; exact ⟨ri_sto_ok (ri_bin_ok trivial) hlv, hst⟩
  | iadd => obtain ⟨a, b, r, rfl, ha, hb2, rfl, rfl, rfl⟩ := ri_s2_s h; exact ⟨hlv, ri_all_cons (ri_bin_ok trivial) (ri_all_tl (ri_all_tl hst))⟩
  | isub => obtain ⟨a, b, r, rfl, ha, hb2, rfl, rfl, rfl⟩ := ri_s2_s h; exact ⟨hlv, ri_all_cons (ri_bin_ok trivial) (ri_all_tl (ri_all_tl hst))⟩
  | imul => obtain ⟨a, b, r, rfl, ha, hb2, rfl, rfl, rfl⟩ := ri_s2_s h; exact ⟨hlv, ri_all_cons (ri_bin_ok trivial) (ri_all_tl (ri_all_tl hst))⟩
  | idiv => obtain ⟨a, b, r, rfl, ha, hz, rfl, rfl, rfl⟩ := ri_sd_s h; exact ⟨hlv, ri_all_cons (ri_bin_ok trivial) (ri_all_tl (ri_all_tl hst))⟩
  | irem => obtain ⟨a, b, r, rfl, ha, hz, rfl, rfl, rfl⟩ := ri_sd_s h; exact ⟨hlv, ri_all_cons (ri_bin_ok trivial) (ri_all_tl (ri_all_tl hst))⟩
  | iand => obtain ⟨a, b, r, rfl, ha, hb2, rfl, rfl, rfl⟩ := ri_s2_s h; exact ⟨hlv, ri_all_cons (ri_bin_ok trivial) (ri_all_tl (ri_all_tl hst))⟩
  | ior => obtain ⟨a, b, r, rfl, ha, hb2, rfl, rfl, rfl⟩ := ri_s2_s h; exact ⟨hlv, ri_all_cons (ri_bin_ok trivial) (ri_all_tl (ri_all_tl hst))⟩
  | ixor => obtain ⟨a, b, r, rfl, ha, hb2, rfl, rfl, rfl⟩ := ri_s2_s h; exact ⟨hlv, ri_all_cons (ri_bin_ok trivial) (ri_all_tl (ri_all_tl hst))⟩
  | ishl => obtain ⟨a, b, r, rfl, ha, hb2, rfl, rfl, rfl⟩ := ri_s2_s h; exact ⟨hlv, ri_all_cons (ri_bin_ok trivial) (ri_all_tl (ri_all_tl hst))⟩
  | ishr => obtain ⟨a, b, r, rfl, ha, hb2, rfl, rfl, rfl⟩ := ri_s2_s h; exact ⟨hlv, ri_all_cons (ri_bin_ok trivial) (ri_all_tl (ri_all_tl hst))⟩
  | iushr => obtain ⟨a, b, r, rfl, ha, hb2, rfl, rfl, rfl⟩ := ri_s2_s h; exact ⟨hlv, ri_all_cons (ri_bin_ok trivial) (ri_all_tl (ri_all_tl hst))⟩
  | ineg => obtain ⟨a, r, rfl, ha, rfl, rfl, rfl⟩ := ri_s1_s h; exact ⟨hlv, ri_all_cons (ri_un_ok trivial) (ri_all_tl hst)⟩
  | i2l => obtain ⟨a, r, rfl, ha, rfl, rfl, rfl⟩ := ri_s1_s h; exact ⟨hlv, ri_all_cons (ri_unIL_ok trivial) (ri_all_tl hst)⟩
  | l2i => obtain ⟨a, r, rfl, ha, rfl, rfl, rfl⟩ := ri_s1_s h; exact ⟨hlv, ri_all_cons (ri_unLI_ok trivial) (ri_all_tl hst)⟩
  | ladd => obtain ⟨a, b, r, rfl, ha, hb2, rfl, rfl, rfl⟩ := ri_s2_s h; exact ⟨hlv, ri_all_cons (ri_binL_ok trivial) (ri_all_tl (ri_all_tl hst))⟩
  | lsub => obtain ⟨a, b, r, rfl, ha, hb2, rfl, rfl, rfl⟩ := ri_s2_s h; exact ⟨hlv, ri_all_cons (ri_binL_ok trivial) (ri_all_tl (ri_all_tl hst))⟩
  | lcmp => obtain ⟨a, b, r, rfl, ha, hb2, rfl, rfl, rfl⟩ := ri_s2_s h; exact ⟨hlv, ri_all_cons (ri_binC_ok trivial) (ri_all_tl (ri_all_tl hst))⟩
  | i2d => obtain ⟨x, r, rfl, rfl, rfl, rfl⟩ := ri_sI_s h; exact ⟨hlv, ri_all_cons trivial (ri_all_tl hst)⟩
  | i2f => obtain ⟨x, r, rfl, rfl, rfl, rfl⟩ := ri_sI_s h; exact ⟨hlv, ri_all_cons trivial (ri_all_tl hst)⟩
  | ddiv => obtain ⟨x, y, r, rfl, hn, rfl, rfl, rfl⟩ := ri_s2D_s h; exact ⟨hlv, ri_all_cons trivial (ri_all_tl (ri_all_tl hst))⟩
  | fdiv => obtain ⟨x, y, r, rfl, hn, rfl, rfl, rfl⟩ := ri_s2F_s h; exact ⟨hlv, ri_all_cons trivial (ri_all_tl (ri_all_tl hst))⟩
  | fsub => obtain ⟨x, y, r, rfl, hn, rfl, rfl, rfl⟩ := ri_s2F_s h; exact ⟨hlv, ri_all_cons trivial (ri_all_tl (ri_all_tl hst))⟩
  | f2d => obtain ⟨x, r, rfl, hn, rfl, rfl, rfl⟩ := ri_s1F_s h; exact ⟨hlv, ri_all_cons trivial (ri_all_tl hst)⟩
  | fconst k =>
    match k, h with
    | 0, h => cases h; exact ⟨hlv, ri_all_cons trivial hst⟩
    | 1, h => cases h; exact ⟨hlv, ri_all_cons trivial hst⟩
    | 2, h => cases h
  | dconst k =>
    match k, h with
    | 0, h => cases h; exact ⟨hlv, ri_all_cons trivial hst⟩
    | 1, h => cases h
  | dcmp op => obtain ⟨x, y, r, rfl, rfl, rfl, rfl⟩ := ri_sC_s h; exact ⟨hlv, ri_all_cons ri_ci_ok (ri_all_tl (ri_all_tl hst))⟩
  | dload k => obtain ⟨t, h1, h2, rfl, rfl, rfl⟩ := ri_pl_s h; exact ⟨hlv, ri_all_cons (LD h1) hst⟩
  | dload_n k => obtain ⟨t, h1, h2, rfl, rfl, rfl⟩ := ri_pl_s h; exact ⟨hlv, ri_all_cons (LD h1) hst⟩
  | dstore k => obtain ⟨t, rfl, h2, h3, rfl, rfl⟩ := ri_psd_s h; exact ⟨ri_sto2_ok (hst t List.mem_cons_self) hlv, ri_all_tl hst⟩
  | dstore_n k => obtain ⟨t, rfl, h2, h3, rfl, rfl⟩ := ri_psd_s h; exact ⟨ri_sto2_ok (hst t List.mem_cons_self) hlv, ri_all_tl hst⟩
  | dup => obtain ⟨a, r, rfl, ha, rfl, rfl, rfl⟩ := ri_dup_s h; exact ⟨hlv, ri_all_cons (hst a List.mem_cons_self) hst⟩
  | dup_x1 => obtain ⟨a, b, r, rfl, ha, hb2, rfl, rfl, rfl⟩ := ri_dup_x1_s h; exact ⟨hlv, ri_all_cons (hst a List.mem_cons_self) (ri_all_cons (ri_all_tl hst b List.mem_cons_self) (ri_all_cons (hst a List.mem_cons_self) (ri_all_tl (ri_all_tl hst))))⟩
  | dup2 => obtain ⟨a, b, r, rfl, ha, hb2, rfl, rfl, rfl⟩ := ri_dup2_s h; exact ⟨hlv, ri_all_cons (hst a List.mem_cons_self) (ri_all_cons (ri_all_tl hst b List.mem_cons_self) hst)⟩
  | pop => obtain ⟨a, rfl, ha, rfl, rfl⟩ := ri_pop_s h; exact ⟨hlv, ri_all_tl hst⟩
  | _ => exact absurd h (by simp [ri_pure])
theorem ri_foc_W {B : ri_K} {i : Instr} {f : Nat} {a r : List Jvm.Term} {t : Jvm.Term} (ih : ∀ (pc : Nat) (lv : List (Nat × Jvm.Term)) (st : List Jvm.Term) (cs : List ri_Cd) (mem : ri_Me) (rs : ri_Rs), ri_runB G call M B f pc lv st cs mem = some rs → ri_So p l e R s m args below meth c G M D tyc A ρ sa n0 ad0 LT mcT msT pc lv st cs mem rs)
    (hf : ri_foc i st = some (a, t, r)) (hk : ri_k t = 0) (h : ri_vals t (fun y cs' => ri_runB G call M B f pc lv (a ++ y :: r) cs' mem) ((ri_bd cs t).2 - (ri_bd cs t).1 + 1).toNat (ri_bd cs t).1 cs = some rs) : ri_So p l e R s m args below meth c G M D tyc A ρ sa n0 ad0 LT mcT msT pc lv st cs mem rs := by
  have e := ri_foc_s hf
  subst e
  intro ad ls H locs cells slots h1 h2 h3 h4 h5 h6 h7 h8 h9 h10 h11 h12 h13 h14
  obtain ⟨b1, b2⟩ := (ri_bd_s h10 t).1 hk
  obtain ⟨v, cs', r1, k1, k2, k3, k4⟩ := ri_vals_s _ _ cs h10 h b1 (by omega)
  have hgo := ri_So_le (ih _ _ _ _ _ _ k2) k4 ad ls H locs cells slots h1 h2 h3 h4 h5 h6 h7 h8 (fun z hz => by
    rcases List.mem_append.mp hz with hz | hz
    · exact h9 z (List.mem_append_left _ hz)
    · rcases List.mem_cons.mp hz with rfl | hz
      · trivial
      · exact h9 z (List.mem_append_right _ (List.mem_cons_of_mem _ hz))) k3 h11 h12 h13 h14
  rw [List.map_append, List.map_cons, ri_ivI hk, k1]
  rw [List.map_append, List.map_cons] at hgo
  exact hgo
theorem ri_run_W {B : ri_K} (hB : ∀ pc lv st cs mem rs, B pc lv st cs mem = some rs → ri_So p l e R s m args below meth c G M D tyc A ρ sa n0 ad0 LT mcT msT pc lv st cs mem rs) (hsc : ri_hsc M ρ sa A s) (hac : ∀ t : ArrayType, ri_isI (newarray.typeOf t) = true → Jvm.Cond.arrayClass (newarray.typeOf t) ∈ ALL) (hC : ri_Cx l ALL STR sa G M D tyc A p s m args meth c R LC d mcT msT)
    (hcall : ∀ mi as cs mem rs, call mi as cs mem = some rs → ri_Con l ALL STR G LC d mi as cs mem rs) (hcode : ∀ pc i len, (ri_co M)[pc]? = some (some (i, len)) → decode (ri_by M) pc = .ok (i, len)) :
    ∀ (f pc : Nat) (lv : List (Nat × Jvm.Term)) (st : List Jvm.Term) (cs : List ri_Cd) (mem : ri_Me) (rs : ri_Rs), ri_runB G call M B f pc lv st cs mem = some rs → ri_So p l e R s m args below meth c G M D tyc A ρ sa n0 ad0 LT mcT msT pc lv st cs mem rs := by
  intro f
  induction f with
  | zero => intro pc lv st cs mem rs h; exact hB _ _ _ _ _ _ h
  | succ f ih =>
    intro pc lv st cs mem rs h
    have hC0 := hC
    obtain ⟨⟨⟨hx, hb, hml, hown, hin⟩, hM, hcl, hlk, hts, hKK, hA, hstr⟩, hSt, hwm, hr, hlocks, hex, hl, rfl, hLC, hco, hcs⟩ := hC
    rw [ri_runB_S] at h
    unfold ri_one at h
    split at h
    · next i len hi =>
      have hd := hcode _ _ _ hi
      split at h
      · next len' lv' st' hp =>
        split at h
        · next hlen =>
          subst hlen
          intro ad ls H locs cells slots h1 h2 h3 h4 h5 h6 h7 h8 h9 h10 h11 h12 h13 h14
          obtain ⟨k1, k2⟩ := ri_pure_ok hp h8 h9
          exact ri_pure_W hx hb hp hd h3 (fun ls' hl' => ih _ _ _ _ _ _ h ad ls' H locs cells slots h1 h2 hl' h4 h5 h6 h7 k1 k2 h10 h11 h12 h13 h14)
        · cases h
      · split at h
        · next x hhp =>
          split at h
          · next hlen =>
            subst hlen
            obtain ⟨r2, g1, g2, g3, g4, g5⟩ := ri_more_s h
            intro ad ls H locs cells slots h1 h2 h3 h4 h5 h6 h7 h8 h9 h10 h11 h12 h13 h14
            rw [g3] at h12
            rw [g4] at h13
            rw [g5] at h14
            refine ri_heap_W hsc hac hC0.1 hhp hd h4 h5 h6 h7 h9 h10 (fun o ho => h14 o (List.mem_append_left _ ho)) h3.1 (by show 1 ≤ d + 1 + 5; omega) (by show 100 ≤ 150 + (d + 1) * LC; omega) (by show _ ≤ mcT; omega) (by show _ ≤ msT; omega) ?_
            intro ad' H' locs' a1 a2 a3 a4 a5 a6 a7
            exact ih _ _ _ _ _ _ g1 ad' ls H' locs' (cells + x.2.2.2.1) (slots + x.2.2.2.2.1) (ri_ag_tr h1 a1 h2) (Nat.le_trans h2 a6) (by rw [ri_lc_ag h8 a1]; exact h3) a2 a3 a4 a5 (fun q hq => ri_ok_mono (h8 q hq) a6) a7 h10 (fun z hz => h11 z (by rw [g2]; exact hz)) (by omega) (by omega) (fun o ho => h14 o (List.mem_append_right _ ho))
          · cases h
        · split at h
          · next a t r hf =>
            split at h
            · next hk => exact ri_foc_W ih hf hk.1 h
            · cases h
          · exact ri_ctl_W hC0 (fun pc lv st cs mem rs hh => ih pc lv st cs mem rs hh) hcall hcode hd h
    · cases h
theorem ri_args_lc {ad : Nat → Nat} : ∀ (as : List Jvm.Term) (i : Nat), ri_lc ρ sa ad (ri_args i as) = lv_args i (as.map (ri_cv ρ sa ad))
  | [], i => rfl
  | t :: ts, i => by
    show (i, ri_cv ρ sa ad t) :: ri_lc ρ sa ad (ri_args (if ri_wide t = true then i + 2 else i + 1) ts) = (i, ri_cv ρ sa ad t) :: lv_args (if (ri_cv ρ sa ad t).category = 2 then i + 2 else i + 1) (ts.map (ri_cv ρ sa ad))
    rw [ri_args_lc ts]
    by_cases h : ri_wide t = true
    · rw [if_pos h, if_pos (ri_cat2.mpr h)]
    · rw [if_neg h, if_neg (fun z => h (ri_cat2.mp z))]
theorem ri_args_ok {n : Nat} : ∀ (as : List Jvm.Term) (i : Nat), (∀ t ∈ as, ri_ok n t) → ∀ q ∈ ri_args i as, ri_ok n q.2
  | [], i, h, q, hq => by cases hq
  | t :: ts, i, h, q, hq => by
    rcases List.mem_cons.mp hq with rfl | hq
    · exact h t List.mem_cons_self
    · exact ri_args_ok ts _ (ri_all_tl h) q hq
theorem ri_args_len {ad : Nat → Nat} : ∀ (as : List Jvm.Term), (lg_sl (as.map (ri_cv ρ sa ad))).length = (as.map (fun t => if ri_wide t = true then 2 else 1)).sum
  | [] => rfl
  | t :: ts => by
    have ih := ri_args_len (ad := ad) ts
    unfold lg_sl at ih ⊢
    rw [List.map_cons, List.flatMap_cons, List.length_append, ih, List.map_cons, List.sum_cons]
    by_cases h : ri_wide t = true
    · rw [if_pos h, if_pos (ri_cat2.mpr h)]; rfl
    · rw [if_neg h, if_neg (fun z => h (ri_cat2.mp z))]; rfl
/-- what a program must show of its tables -/
def ri_TB (ALL : List Jvm.Cond) (STR : List (String × Nat × String)) (G : ri_Tb) (LC : Nat) : Prop := ri_clOK ALL G ∧ ri_lkOK ALL STR G ∧ (∀ w ∈ ALL, ri_warm w = true) ∧ (∀ i ∈ ri_mts G, 19 + ri_mx i ≤ LC) ∧ (∀ M2 ∈ ri_mts G, ri_own M2 = (ri_nm M2).cls ∧ ri_hw M2 ∈ ALL ∧ goodWord (ri_hw M2) = true ∧ Jvm.Cond.initialized (ri_nm M2).cls ∈ ALL ∧ Bundle.fit (ri_nm M2).cls = true) ∧ (∀ t : ArrayType, ri_isI (newarray.typeOf t) = true → Jvm.Cond.arrayClass (newarray.typeOf t) ∈ ALL) ∧ (∀ M ∈ ri_mts G, ∀ pc i len, (ri_co M)[pc]? = some (some (i, len)) → decode (ri_by M) pc = .ok (i, len)) ∧ (∀ q ∈ ri_nc G, q.2.2 = true → Jvm.Cond.castable q.1 q.2.1 ∈ ALL)
/-- EACH CALL THAT RUNS THROUGH HAS ITS CONTRACT -/
theorem ri_call_W {fuel : Nat} (hl : l.stackTraces = false) (hT : ri_TB ALL STR G LC) : ∀ (k mi : Nat) (as : List Jvm.Term) (cs : List ri_Cd) (mem : ri_Me) (rs : ri_Rs), ri_call G fuel k mi as cs mem = some rs → ri_Con l ALL STR G LC k mi as cs mem rs := by
  obtain ⟨hcl, hlk, hwm, hLC, hco, hac, hcode, hcs⟩ := hT
  intro k
  induction k with
  | zero => intro mi as cs mem rs h; rw [ri_call_0] at h; cases h
  | succ k ih =>
    intro mi as cs mem rs h M hM D tyc ρ sa ad sz hsat hok hargs hob
    rw [ri_call_S] at h
    rw [hM] at h
    dsimp only at h
    split at h
    · next hlen =>
      obtain ⟨hlw, hlen⟩ := hlen
      have hMm := List.mem_of_getElem? hM
      obtain ⟨c0, c1, c2, c3, c4⟩ := hco M hMm
      have body : ∀ (p : Program) (e : Env) (s : State) (m : MethodId) (args : Array Value) (below : List Frame) (meth : Method) (c : Code) (s₁ : State), BodyLoose p l (ri_nm M) (headSpec [ri_hw M] (ri_rm (k + 1) LC rs.2.1 rs.2.2.1)) (ri_by M) (ri_mx M) (ri_rt M) e s m args below meth c s₁ → c.maxLocals = ri_mx M → c.exceptionTable.toList = tableOf (ri_hh M) → ri_Pc ALL STR G D tyc ρ sa ad sz as mem args s →
          W p l e (ri_rm (k + 1) LC rs.2.1 rs.2.2.1) s m args below meth c s.heap [] 0 0 (vx_MQ below (ri_Qc G D tyc (va_A (ri_w ρ sa (ri_aty G) tyc ad mem) sz) ρ sa mem.length ad rs.1) (ri_XC G D tyc (va_A (ri_w ρ sa (ri_aty G) tyc ad mem) sz) ρ sa mem.length ad rs.1) args s rs.2.1 rs.2.2.1 (va_A (ri_w ρ sa (ri_aty G) tyc ad mem) sz)) (entryFrame m args (ri_mx M)) := by
        intro p e s m args below meth c s₁ B hml hex hPc
        obtain ⟨rfl, hsz, hP, hD0, hSt⟩ := hPc
        have hD : va_D (va_A (ri_w ρ sa (ri_aty G) tyc ad mem) sz) (ri_w ρ sa (ri_aty G) tyc ad mem) := hD0.self
        have hown : s.vm.findClass (ri_own M) = some m.cls := by rw [c0]; exact findClass_of_methodNamed B.named
        have hA : ∀ q, s.heap.size ≤ q → va_A (ri_w ρ sa (ri_aty G) tyc ad mem) sz q := fun q h => Or.inr (by rw [← hsz]; exact h)
        have hC : ri_Cx l ALL STR sa G M D tyc (va_A (ri_w ρ sa (ri_aty G) tyc ad mem) sz) p s m (as.map (ri_cv ρ sa ad)).toArray meth c (ri_rm (k + 1) LC rs.2.1 rs.2.2.1) LC k rs.2.1 rs.2.2.1 :=
          ⟨⟨⟨B.exec, B.bytes, hml, hown, fun h => (name_of_methodNamed B.named B.method).1.trans h⟩, hlk M hMm, hcl, hlk, fun w hw => hSt.1 w hw _, hSt.2.1, hA, hSt.2.2.1⟩, hSt, hwm, B.returns, B.notSynchronized, hex, hl, rfl, hLC, hco, hcs⟩
        have hgo := ri_run_W (ρ := ρ) (below := below) (e := e) (n0 := mem.length) (ad0 := ad) (LT := rs.1) (fun _ _ _ _ _ _ z => by cases z) (fun z => by rw [hlw] at z; cases z) hac hC (fun mi as cs mem rs h => ih mi as cs mem rs h) (hcode M hMm) fuel 0 (ri_args 0 as) [] cs mem rs h
        have hl0 := lv_entry (as.map (ri_cv ρ sa ad)) (n := ri_mx M) (by rw [ri_args_len]; exact hlen)
        rw [lg_entry_eq]
        rw [← ri_args_lc as 0] at hl0
        exact hgo ad _ s.heap [] 0 0 ri_ag_rf (Nat.le_refl _) hl0 hP hD va_S.rf hok (ri_args_ok as 0 hargs) (fun t ht => by cases ht) hsat (fun x hx => hx) (by rw [Nat.zero_add]; exact Nat.le_refl _) (by rw [Nat.zero_add]; exact Nat.le_refl _) hob
      cases hh9 : ri_hh M with
      | nil =>
        refine vx_ofW (cc := ri_by M) (maxL := ri_mx M) (ret := ri_rt M) (ws' := []) (Bundle.fit_spec c4).1 (by rw [ri_hw_nil (M2 := M) (by rw [hh9]; rfl)]) ?_
        intro p e s m args below meth c s₁ B hml hex hPc
        refine body p e s m args below meth c s₁ B hml ?_ hPc
        rw [hh9]
        exact List.eq_nil_iff_forall_not_mem.mpr fun x hx => hex x hx
      | cons h9 t9 =>
        refine vx_ofWH (cc := ri_by M) (maxL := ri_mx M) (ret := ri_rt M) (hh := h9 :: t9) (ws' := []) (Bundle.fit_spec c4).1 (by rw [ri_hw_cons (M2 := M) hh9]) ?_
        intro p e s m args below meth c s₁ B hml hPc
        refine body p e s m args below meth c s₁ B hml ?_ hPc
        have hpre := atoms_spec (ws := [ri_hw M]) B.pre (ri_hw M) List.mem_cons_self
        rw [ri_hw_cons (M2 := M) hh9] at hpre
        rw [hh9]
        exact vx_table (x := ri_nm M) B hpre
    · cases h
end RIZ1
end RIZ
end
section
/-! RI: what a program must show of its tables, checked -/
section RIQ
section RIQ1
variable {ALL : List Jvm.Cond} {STR : List (String × Nat × String)} {G : ri_Tb}
/-- the words that a link asks for -/
def ri_nd (STR : List (String × Nat × String)) (G : ri_Tb) (own : String) (idx : Nat) (q : ri_Lk) : Option (List Jvm.Cond) := match q with
  | (0, a, b, _) => match (ri_cls G)[a]? with
    | some (_, T, N) => if b < N then some [.fieldLink own idx (T b).1 (T b).2.1 (T b).2.2.1] else none
    | none => none
  | (1, a, b, tx) => match (ri_cls G)[a]? with
    | some (_, T, N) => if b < N then some [.fieldLinkNest own idx (T b).1 (T b).2.1 (T b).2.2.1 tx] else none
    | none => none
  | (4, a, _, _) => match (ri_cls G)[a]? with
    | some (C, _, N) => some [.classLink own idx C, .instantiable C N, .initialized C]
    | none => none
  | (6, a, _, _) => match (ri_aty G)[a]? with
    | some (.object C) => some [.classLink own (idx - 100000) C, .arrayOver (.object C)]
    | _ => none
  | (8, a, b, _) => some [.constant own idx (Int32.ofNat a - Int32.ofNat b)]
  | (5, _, _, E) => if Bundle.fit E = true then some [.classLink own idx E, .initialized E] else none
  | (9, _, _, tx) => if (own, idx, tx) ∈ STR then some [] else none
  | (14, a, b, _) => some [.constantLong own idx (Int64.ofNat a - Int64.ofNat b)]
  | (13, _, _, E) => if (["java/lang/RuntimeException", "java/lang/Exception"].all (fun n => Bundle.fit n) && (vx_atS own idx E ["java/lang/RuntimeException", "java/lang/Exception"]).all vx_ot) = true then some (vx_atS own idx E ["java/lang/RuntimeException", "java/lang/Exception"]) else none
  | (15, _, _, E) => if (ri_atX own idx E 13 ri_rx "java/lang/RuntimeException" ["java/lang/Exception"]).all vx_ot = true then some (ri_atX own idx E 13 ri_rx "java/lang/RuntimeException" ["java/lang/Exception"]) else none
  | (20, mi, n, _) => match (ri_mts G)[mi]? with
    | some M2 => if (parseMethodDescriptor (ri_nm M2).desc).map (fun d => d.parameters.length) = some n then some [.methodLink own idx (ri_nm M2), .instanceMethod (ri_nm M2), .selects (ri_nm M2).cls (ri_nm M2) (ri_nm M2)] else none
    | none => none
  | (21, mi, n, _) => match (ri_mts G)[mi]? with
    | some M2 => if (parseMethodDescriptor (ri_nm M2).desc).map (fun d => d.parameters.length) = some n then some [.methodLink own idx (ri_nm M2), .static (ri_nm M2)] else none
    | none => none
  | (22, mi, n, _) => match (ri_mts G)[mi]? with
    | some M2 => if (parseMethodDescriptor (ri_nm M2).desc).map (fun d => d.parameters.length) = some n ∧ (ri_nm M2).name = "<init>" ∧ ri_rt M2 = none then some [.methodLink own idx (ri_nm M2), .instanceMethod (ri_nm M2)] else none
    | none => none
  | (30, mi, n, tx) => match (ri_mts G)[mi]? with
    | some M2 => if (parseMethodDescriptor (ri_nm M2).desc).map (fun d => d.parameters.length) = some n then some [.methodLinkNest own idx (ri_nm M2) tx, .instanceMethod (ri_nm M2), .selects (ri_nm M2).cls (ri_nm M2) (ri_nm M2)] else none
    | none => none
  | (31, mi, n, tx) => match (ri_mts G)[mi]? with
    | some M2 => if (parseMethodDescriptor (ri_nm M2).desc).map (fun d => d.parameters.length) = some n then some [.methodLinkNest own idx (ri_nm M2) tx, .static (ri_nm M2)] else none
    | none => none
  | (32, mi, n, tx) => match (ri_mts G)[mi]? with
    | some M2 => if (parseMethodDescriptor (ri_nm M2).desc).map (fun d => d.parameters.length) = some n ∧ (ri_nm M2).name = "<init>" ∧ ri_rt M2 = none then some [.methodLinkNest own idx (ri_nm M2) tx, .instanceMethod (ri_nm M2)] else none
    | none => none
  | (7, _, _, _) => some [.methodLink own idx objectInit, .instanceMethod objectInit, .code objectInit ⟨#[0xb1]⟩ 1 none]
  | (10, _, _, _) => some [.methodLink own idx Lib.Math.max.name, .static Lib.Math.max.name, .initialized "java/lang/Math", .code Lib.Math.max.name Lib.Math.max.code 2 (some .int)]
  | (11, _, _, _) => some [.methodLink own idx Lib.Math.min.name, .static Lib.Math.min.name, .initialized "java/lang/Math", .code Lib.Math.min.name Lib.Math.min.code 2 (some .int)]
  | (12, _, _, _) => some [.methodLink own idx arraycopyName, .native arraycopyName, .static arraycopyName, .initialized "java/lang/System"]
  | _ => none
set_option maxHeartbeats 4000000 in
theorem ri_nd_s {own : String} {idx : Nat} {q : ri_Lk} {ws : List Jvm.Cond} (h : ri_nd STR G own idx q = some ws) (hw : ∀ w ∈ ws, w ∈ ALL) : ri_link ALL STR G own idx q := by
  have i0 : ∀ {a : Jvm.Cond} {l : List Jvm.Cond}, a ∈ a :: l := List.mem_cons_self
  have i1 : ∀ {a b : Jvm.Cond} {l : List Jvm.Cond}, b ∈ a :: b :: l := List.mem_cons_of_mem _ List.mem_cons_self
  have i2 : ∀ {a b c : Jvm.Cond} {l : List Jvm.Cond}, c ∈ a :: b :: c :: l := List.mem_cons_of_mem _ (List.mem_cons_of_mem _ List.mem_cons_self)
  have i3 : ∀ {a b c d : Jvm.Cond} {l : List Jvm.Cond}, d ∈ a :: b :: c :: d :: l := List.mem_cons_of_mem _ (List.mem_cons_of_mem _ (List.mem_cons_of_mem _ List.mem_cons_self))
  unfold ri_nd at h
  split at h
  · split at h
    · next C T N e => split at h
                      · next hb => cases h; exact ⟨C, T, N, e, hb, hw _ i0⟩
                      · cases h
    · cases h
  · split at h
    · next C T N e => split at h
                      · next hb => cases h; exact ⟨C, T, N, e, hb, hw _ i0⟩
                      · cases h
    · cases h
  · split at h
    · next C T N e => cases h; exact ⟨C, T, N, e, hw _ i0, hw _ i1, hw _ i2⟩
    · cases h
  · split at h
    · next C e => cases h; exact ⟨C, e, hw _ i0, hw _ i1⟩
    · cases h
  · cases h; exact hw _ i0
  · split at h
    · next hf => cases h; exact ⟨hw _ i0, hw _ i1, hf⟩
    · cases h
  · split at h
    · next hf => exact hf
    · cases h
  · cases h; exact hw _ i0
  · split at h
    · next hf =>
      cases h
      rw [Bool.and_eq_true, List.all_eq_true, List.all_eq_true] at hf
      exact ⟨_, by decide, fun n hn => hf.1 n hn, fun w hq => ⟨hw w hq, hf.2 w hq⟩⟩
    · cases h
  · split at h
    · next hf =>
      cases h
      rw [List.all_eq_true] at hf
      exact fun w hq => ⟨hw w hq, hf w hq⟩
    · cases h
  · split at h
    · next M2 e => split at h
                   · next hf => cases h; exact ⟨M2, e, hf, hw _ i0, hw _ i1, hw _ i2⟩
                   · cases h
    · cases h
  · split at h
    · next M2 e => split at h
                   · next hf => cases h; exact ⟨M2, e, hf, hw _ i0, hw _ i1⟩
                   · cases h
    · cases h
  · split at h
    · next M2 e => split at h
                   · next hf => cases h; exact ⟨M2, e, hf.1, hw _ i0, hw _ i1, hf.2.1, hf.2.2⟩
                   · cases h
    · cases h
  · split at h
    · next M2 e => split at h
                   · next hf => cases h; exact ⟨M2, e, hf, hw _ i0, hw _ i1, hw _ i2⟩
                   · cases h
    · cases h
  · split at h
    · next M2 e => split at h
                   · next hf => cases h; exact ⟨M2, e, hf, hw _ i0, hw _ i1⟩
                   · cases h
    · cases h
  · split at h
    · next M2 e => split at h
                   · next hf => cases h; exact ⟨M2, e, hf.1, hw _ i0, hw _ i1, hf.2.1, hf.2.2⟩
                   · cases h
    · cases h
  · cases h; exact ⟨hw _ i0, hw _ i1, hw _ i2⟩
  · cases h; exact ⟨hw _ i0, hw _ i1, hw _ i2, hw _ i3⟩
  · cases h; exact ⟨hw _ i0, hw _ i1, hw _ i2, hw _ i3⟩
  · cases h; exact ⟨hw _ i0, hw _ i1, hw _ i2, hw _ i3⟩
  · cases h
/-- a word at its place: the number of its list, its place there -/
def ri_hs (T : List (List Jvm.Cond)) (w : Jvm.Cond) (h : Nat × Nat) : Bool := match T[h.1]? with
  | some l => match l[h.2]? with
    | some z => decide (z = w) && ri_warm w
    | none => false
  | none => false
theorem ri_hs_s {T : List (List Jvm.Cond)} {w : Jvm.Cond} {h : Nat × Nat} (e : ri_hs T w h = true) : w ∈ T.flatten.filter ri_warm := by
  unfold ri_hs at e
  split at e
  · next l hl =>
    split at e
    · next z hz =>
      rw [Bool.and_eq_true, decide_eq_true_iff] at e
      obtain ⟨rfl, e2⟩ := e
      exact List.mem_filter.mpr ⟨List.mem_flatten.mpr ⟨l, List.mem_of_getElem? hl, List.mem_of_getElem? hz⟩, e2⟩
    · cases e
  · cases e
def ri_hsW (T : List (List Jvm.Cond)) : List Jvm.Cond → List (Nat × Nat) → Bool
  | [], _ => true
  | w :: l, h :: r => ri_hs T w h && ri_hsW T l r
  | _ :: _, [] => false
theorem ri_hsW_s {T : List (List Jvm.Cond)} : ∀ (ws : List Jvm.Cond) (hs : List (Nat × Nat)), ri_hsW T ws hs = true → ∀ w ∈ ws, w ∈ T.flatten.filter ri_warm
  | [], _, _, w, hw => by cases hw
  | a :: l, h :: r, e, w, hw => by
    simp only [ri_hsW, Bool.and_eq_true] at e
    rcases List.mem_cons.mp hw with rfl | hw
    · exact ri_hs_s e.1
    · exact ri_hsW_s l r e.2 w hw
  | _ :: _, [], e, _, _ => by cases e
def ri_hsL (T : List (List Jvm.Cond)) (STR : List (String × Nat × String)) (G : ri_Tb) (own : String) : List (Nat × ri_Lk) → List (List (Nat × Nat)) → Bool
  | [], _ => true
  | q :: l, h :: r => (match ri_nd STR G own q.1 q.2 with
    | some ws => ri_hsW T ws h
    | none => false) && ri_hsL T STR G own l r
  | _ :: _, [] => false
theorem ri_hsL_s {T : List (List Jvm.Cond)} {own : String} : ∀ (ls : List (Nat × ri_Lk)) (hs : List (List (Nat × Nat))), ri_hsL T STR G own ls hs = true → ∀ q ∈ ls, ri_link (T.flatten.filter ri_warm) STR G own q.1 q.2
  | [], _, _, q, hq => by cases hq
  | a :: l, h :: r, e, q, hq => by
    simp only [ri_hsL, Bool.and_eq_true] at e
    rcases List.mem_cons.mp hq with rfl | hq
    · have e1 := e.1
      split at e1
      · next ws hws => exact ri_nd_s hws (ri_hsW_s _ _ e1)
      · cases e1
    · exact ri_hsL_s l r e.2 q hq
  | _ :: _, [], e, _, _ => by cases e
/-- where a word stands -/
def ri_place (T : List (List Jvm.Cond)) (w : Jvm.Cond) : Nat × Nat := match T.findIdx? (fun l => l.any (fun z => decide (z = w))) with
  | some i => (i, ((T[i]?.getD []).findIdx? (fun z => decide (z = w))).getD 99999)
  | none => (999, 999)
end RIQ1
end RIQ
end
section
/-! RI: the tables of kinds of objects and of methods, checked -/
section RIQ2
variable {STR : List (String × Nat × String)} {G : ri_Tb} {T0 : List (List Jvm.Cond)}
def ri_clB (T0 : List (List Jvm.Cond)) (r : vw_C) (tys : List FieldType) (h : List (Nat × Nat)) : Bool :=
  tys.length == r.2.2 && ((List.range r.2.2).all (fun k => decide (parseFieldDescriptor (r.2.1 k).2.2.1 = tys[k]?)) && ((List.range r.2.2).all (fun a => (List.range r.2.2).all (fun b => a == b || decide ((r.2.1 a).2.1 ≠ (r.2.1 b).2.1))) && ri_hsW T0 (u_ws r.1 r.2.1 r.2.2) h))
theorem ri_clB_s {r : vw_C} {tys : List FieldType} {h : List (Nat × Nat)} (e : ri_clB T0 r tys h = true) : tys.length = r.2.2 ∧ (∀ k, k < r.2.2 → parseFieldDescriptor (r.2.1 k).2.2.1 = tys[k]?) ∧ (∀ a, a < r.2.2 → ∀ b, b < r.2.2 → a ≠ b → (r.2.1 a).2.1 ≠ (r.2.1 b).2.1) ∧ ∀ w ∈ u_ws r.1 r.2.1 r.2.2, w ∈ T0.flatten.filter ri_warm := by
  simp only [ri_clB, Bool.and_eq_true, beq_iff_eq, List.all_eq_true, List.mem_range, decide_eq_true_iff, Bool.or_eq_true] at e
  obtain ⟨e1, e2, e3, e4⟩ := e
  exact ⟨e1, e2, fun a ha b hb hab => (e3 a ha b hb).resolve_left hab, ri_hsW_s _ _ e4⟩
def ri_clL (T0 : List (List Jvm.Cond)) : List vw_C → List (List FieldType) → List (List (Nat × Nat)) → Bool
  | [], _, _ => true
  | r :: l, t :: ts, h :: hs => ri_clB T0 r t h && ri_clL T0 l ts hs
  | _, _, _ => false
theorem ri_clL_s : ∀ (cl : List vw_C) (ts : List (List FieldType)) (hs : List (List (Nat × Nat))), ri_clL T0 cl ts hs = true → ∀ (ci : Nat) (r : vw_C), cl[ci]? = some r → ∃ tys : List FieldType, ts[ci]? = some tys ∧ tys.length = r.2.2 ∧ (∀ k, k < r.2.2 → parseFieldDescriptor (r.2.1 k).2.2.1 = tys[k]?) ∧ (∀ a, a < r.2.2 → ∀ b, b < r.2.2 → a ≠ b → (r.2.1 a).2.1 ≠ (r.2.1 b).2.1) ∧ ∀ w ∈ u_ws r.1 r.2.1 r.2.2, w ∈ T0.flatten.filter ri_warm
  | [], _, _, _, ci, r, hr => by simp at hr
  | r0 :: l, t :: ts, h :: hs, e, ci, r, hr => by
    simp only [ri_clL, Bool.and_eq_true] at e
    cases ci with
    | zero =>
      rw [List.getElem?_cons_zero] at hr
      cases hr
      exact ⟨t, rfl, ri_clB_s e.1⟩
    | succ ci =>
      rw [List.getElem?_cons_succ] at hr
      obtain ⟨tys, h1, h2⟩ := ri_clL_s l ts hs e.2 ci r hr
      exact ⟨tys, by rw [List.getElem?_cons_succ]; exact h1, h2⟩
  | _ :: _, [], _, e, _, _, _ => by simp [ri_clL] at e
  | _ :: _, _ :: _, [], e, _, _, _ => by simp [ri_clL] at e
theorem ri_clOK_s {hs : List (List (Nat × Nat))} (e : ri_clL T0 (ri_cls G) (ri_fts G) hs = true) : ri_clOK (T0.flatten.filter ri_warm) G := fun ci C T N hr => ri_clL_s _ _ _ e ci (C, T, N) hr
/-- a method's own words, its decoded code -/
def ri_moB (T0 : List (List Jvm.Cond)) (M : ri_Mt) (h : List (Nat × Nat)) : Bool := decide (ri_own M = (ri_nm M).cls) && (ri_hsW T0 [ri_hw M, .initialized (ri_nm M).cls] h && (goodWord (ri_hw M) && (Bundle.fit (ri_nm M).cls && Nat.ble (ri_mx M) 11)))
def ri_moL (T0 : List (List Jvm.Cond)) : List ri_Mt → List (List (Nat × Nat)) → Bool
  | [], _ => true
  | M :: l, h :: hs => ri_moB T0 M h && ri_moL T0 l hs
  | _, _ => false
def ri_mo (T0 : List (List Jvm.Cond)) (M : ri_Mt) : Prop := (ri_own M = (ri_nm M).cls ∧ ri_hw M ∈ T0.flatten.filter ri_warm ∧ goodWord (ri_hw M) = true ∧ Jvm.Cond.initialized (ri_nm M).cls ∈ T0.flatten.filter ri_warm ∧ Bundle.fit (ri_nm M).cls = true) ∧ 19 + ri_mx M ≤ 30
theorem ri_moL_s : ∀ (l : List ri_Mt) (hs : List (List (Nat × Nat))), ri_moL T0 l hs = true → ∀ M ∈ l, ri_mo T0 M
  | [], _, _, M, hM => by cases hM
  | a :: l, h :: hs, e, M, hM => by
    simp only [ri_moL, Bool.and_eq_true] at e
    rcases List.mem_cons.mp hM with rfl | hM
    · have e1 := e.1
      simp only [ri_moB, Bool.and_eq_true, decide_eq_true_iff] at e1
      obtain ⟨a1, a2, a3, a4, a5⟩ := e1
      have a6 := ri_hsW_s _ _ a2
      have a7 := Nat.le_of_ble_eq_true a5
      exact ⟨⟨a1, a6 _ List.mem_cons_self, a3, a6 _ (List.mem_cons_of_mem _ List.mem_cons_self), a4⟩, by omega⟩
    · exact ri_moL_s l hs e.2 M hM
  | _ :: _, [], e, _, _ => by simp [ri_moL] at e
def ri_deB (M : ri_Mt) : Bool := (List.range (ri_co M).length).all (fun pc => match (ri_co M)[pc]? with
  | some (some (i, len)) => decide (decode (ri_by M) pc = .ok (i, len))
  | _ => true)
theorem ri_deB_s {M : ri_Mt} (e : ri_deB M = true) : ∀ pc i len, (ri_co M)[pc]? = some (some (i, len)) → decode (ri_by M) pc = .ok (i, len) := by
  intro pc i len h
  have h1 := (List.all_eq_true.mp e) pc (List.mem_range.mpr (List.getElem?_eq_some_iff.mp h).1)
  rw [h] at h1
  exact decide_eq_true_iff.mp h1
end RIQ2
end
section
/-! RI once more, quicker to the kernel: what an instruction is, is found once for each place; what follows a call or a load comes last -/
section RQ
noncomputable def rq_F (n : Nat) (f : Nat → Option ri_Rs) : Option ri_Rs := Nat.rec (motive := fun _ => Option ri_Rs) (f 0) (fun k _ => f (Nat.succ k)) n
theorem rq_F_eq {n : Nat} {f : Nat → Option ri_Rs} : rq_F n f = f n := by cases n <;> rfl
def rq_more (c s : Nat) (o : List ri_Ob) (r : Option ri_Rs) : Option ri_Rs := match c, s, o with
  | 0, 0, [] => r
  | _, _, _ => ri_more c s o r
theorem rq_more_eq : rq_more = ri_more := by
  funext c s o r
  unfold rq_more
  split
  · unfold ri_more
    cases r with
    | none => rfl
    | some x => simp
  · rfl
def rq_seq (k : ri_Lf → Option ri_Rs) : List ri_Lf → Option ri_Rs
  | [] => some ([], 0, 0, [])
  | [x] => k x
  | x :: y :: l => ri_both (k x) (rq_seq k (y :: l))
theorem rq_seq_eq : rq_seq = ri_seq := by
  funext k l
  induction l with
  | nil => rfl
  | cons x l ih =>
    cases l with
    | nil =>
      show k x = ri_both (k x) (some ([], 0, 0, []))
      cases k x with
      | none => rfl
      | some r => simp [ri_both]
    | cons y l =>
      show ri_both (k x) (rq_seq k (y :: l)) = ri_both (k x) (ri_seq k (y :: l))
      rw [ih]
def rq_pure (nL : Nat) (i : Instr) : Option (List (Nat × Jvm.Term) → List Jvm.Term → Option (Nat × List (Nat × Jvm.Term) × List Jvm.Term)) := match i with
  | .iconst n => some (fun lv st => some (1, lv, ri_ci (Int32.ofInt n) :: st))
  | .bipush n => some (fun lv st => some (2, lv, ri_ci (Int8.ofInt n).toInt32 :: st))
  | .sipush n => some (fun lv st => some (3, lv, ri_ci (Int16.ofInt n).toInt32 :: st))
  | .lconst n => some (fun lv st => some (1, lv, ri_cl (Int64.ofNat n.val) :: st))
  | .aconst_null => some (fun lv st => some (1, lv, .null :: st))
  | .iload k => some (fun lv st => ri_pl 2 0 lv k st)
  | .iload_n k => some (fun lv st => ri_pl 1 0 lv k.val st)
  | .lload k => some (fun lv st => ri_pl 2 1 lv k st)
  | .lload_n k => some (fun lv st => ri_pl 1 1 lv k.val st)
  | .aload k => some (fun lv st => ri_pa 2 lv k st)
  | .aload_n k => some (fun lv st => ri_pa 1 lv k.val st)
  | .istore k => some (fun lv st => ri_ps 2 0 nL lv k st)
  | .istore_n k => some (fun lv st => ri_ps 1 0 nL lv k.val st)
  | .lstore k => some (fun lv st => ri_ps2 2 nL lv k st)
  | .lstore_n k => some (fun lv st => ri_ps2 1 nL lv k.val st)
  | .astore k => some (fun lv st => ri_psa 2 nL lv k st)
  | .astore_n k => some (fun lv st => ri_psa 1 nL lv k.val st)
  | .iinc k n => some (fun lv st => ri_inc nL lv k n st)
  | .iadd => some (fun lv st => ri_s2 0 (fun a b => ri_bin (fun x y => x + y) (.add a b) a b) lv st)
  | .isub => some (fun lv st => ri_s2 0 (fun a b => ri_bin (fun x y => x - y) (.sub a b) a b) lv st)
  | .imul => some (fun lv st => ri_s2 0 (fun a b => ri_bin (fun x y => x * y) (.mul a b) a b) lv st)
  | .idiv => some (fun lv st => ri_sd (fun a b => ri_bin (fun x y => x / y) (.div a b) a b) lv st)
  | .irem => some (fun lv st => ri_sd (fun a b => ri_bin (fun x y => x - x / y * y) (.rem a b) a b) lv st)
  | .iand => some (fun lv st => ri_s2 0 (fun a b => ri_bin (fun x y => x &&& y) (.op2 .iand a b) a b) lv st)
  | .ior => some (fun lv st => ri_s2 0 (fun a b => ri_bin (fun x y => x ||| y) (.op2 .ior a b) a b) lv st)
  | .ixor => some (fun lv st => ri_s2 0 (fun a b => ri_bin (fun x y => x ^^^ y) (.op2 .ixor a b) a b) lv st)
  | .ishl => some (fun lv st => ri_s2 0 (fun a b => ri_bin (fun x y => x <<< (y &&& 31)) (.op2 .ishl a b) a b) lv st)
  | .ishr => some (fun lv st => ri_s2 0 (fun a b => ri_bin (fun x y => x >>> (y &&& 31)) (.op2 .ishr a b) a b) lv st)
  | .iushr => some (fun lv st => ri_s2 0 (fun a b => ri_bin (fun x y => (x.toUInt32 >>> (y.toUInt32 &&& Int32.toUInt32 31)).toInt32) (.op2 .iushr a b) a b) lv st)
  | .ineg => some (fun lv st => ri_s1 0 (fun a => ri_un (fun x => -x) (.op1 .ineg a) a) lv st)
  | .i2l => some (fun lv st => ri_s1 0 (fun a => ri_unIL (fun x => x.toInt64) (.op1 .i2l a) a) lv st)
  | .l2i => some (fun lv st => ri_s1 1 (fun a => ri_unLI (fun x => x.toInt32) (.op1 .l2i a) a) lv st)
  | .ladd => some (fun lv st => ri_s2 1 (fun a b => ri_binL (fun x y => x + y) (.op2 .ladd a b) a b) lv st)
  | .lsub => some (fun lv st => ri_s2 1 (fun a b => ri_binL (fun x y => x - y) (.op2 .lsub a b) a b) lv st)
  | .lcmp => some (fun lv st => ri_s2 1 (fun a b => ri_binC (.op2 .lcmp a b) a b) lv st)
  | .i2d => some (fun lv st => ri_sI (fun x => ri_fD (FP.i2d x)) lv st)
  | .i2f => some (fun lv st => ri_sI (fun x => ri_fF (FP.i2f x)) lv st)
  | .ddiv => some (fun lv st => ri_s2D FP.ddiv lv st)
  | .fdiv => some (fun lv st => ri_s2F FP.fdiv lv st)
  | .fsub => some (fun lv st => ri_s2F FP.fsub lv st)
  | .f2d => some (fun lv st => ri_s1F FP.f2d lv st)
  | .fconst 0 => some (fun lv st => some (1, lv, ri_fF FP.fconst0 :: st))
  | .fconst 1 => some (fun lv st => some (1, lv, ri_fF FP.fconst1 :: st))
  | .dconst 0 => some (fun lv st => some (1, lv, ri_fD FP.dconst0 :: st))
  | .dcmp op => some (fun lv st => ri_sC op lv st)
  | .dload k => some (fun lv st => ri_pl 2 4 lv k st)
  | .dload_n k => some (fun lv st => ri_pl 1 4 lv k.val st)
  | .dstore k => some (fun lv st => ri_psd 2 nL lv k st)
  | .dstore_n k => some (fun lv st => ri_psd 1 nL lv k.val st)
  | .dup => some (fun lv st => ri_dup lv st)
  | .dup_x1 => some (fun lv st => ri_dup_x1 lv st)
  | .dup2 => some (fun lv st => ri_dup2 lv st)
  | .pop => some (fun lv st => ri_pop lv st)
  | _ => none
def rq_heap (G : ri_Tb) (M : ri_Mt) (i : Instr) : Option (List ri_Cd → List Jvm.Term → ri_Me → Option ri_H1) := match i with
  | .getfield idx => some (fun cs st mem => ri_getf G M idx st mem)
  | .putfield idx => some (fun cs st mem => ri_putf G M idx st mem)
  | .iaload => some (fun cs st mem => match ri_sld M st mem with
    | some x => some x
    | none => ri_iald G cs st mem)
  | .iastore => some (fun cs st mem => ri_iast G st mem)
  | .laload => some (fun cs st mem => ri_lald G st mem)
  | .lastore => some (fun cs st mem => ri_last G st mem)
  | .ldc2_w idx => some (fun cs st mem => ri_ldc2 G M idx st mem)
  | .aaload => some (fun cs st mem => ri_aald G st mem)
  | .aastore => some (fun cs st mem => ri_aast G st mem)
  | .arraylength => some (fun cs st mem => match ri_slen M st mem with
    | some x => some x
    | none => ri_alen G st mem)
  | .new idx => some (fun cs st mem => ri_newo G M idx st mem)
  | .newarray t => some (fun cs st mem => ri_newr G (ri_typeOf t) 2 st mem)
  | .anewarray idx => some (fun cs st mem => match ri_cp G M (idx + 100000) with
    | some (6, a, _, _) => match (ri_aty G)[a]? with
      | some ty => ri_newr G ty 3 st mem
      | none => none
    | _ => none)
  | .ldc idx => some (fun cs st mem => ri_ldc G M idx st mem)
  | .ldc_w idx => some (fun cs st mem => ri_ldcw G M idx st mem)
  | .invokestatic idx => some (fun cs st mem => match ri_cp G M idx with
    | some (12, _, _, _) => ri_acpy G st mem
    | _ => none)
  | _ => none
def rq_foc (i : Instr) : Option (List Jvm.Term → Option (List Jvm.Term × Jvm.Term × List Jvm.Term)) := match i with
  | .iaload => some (fun st => match st with
    | x :: r => some ([], x, r)
    | _ => none)
  | .aaload => some (fun st => match st with
    | x :: r => some ([], x, r)
    | _ => none)
  | .laload => some (fun st => match st with
    | x :: r => some ([], x, r)
    | _ => none)
  | .iastore => some (fun st => match st with
    | t :: x :: r => some ([t], x, r)
    | _ => none)
  | .lastore => some (fun st => match st with
    | t :: x :: r => some ([t], x, r)
    | _ => none)
  | _ => none
def rq_inv (G : ri_Tb) (call : ri_Call) (M : ri_Mt) (K : ri_K) (sort pc idx : Nat) (lv : List (Nat × Jvm.Term)) (st : List Jvm.Term) (cs : List ri_Cd) (mem : ri_Me) : Option ri_Rs := match ri_cp G M idx with
  | some (kd, mi, n, _) =>
    if kd = 20 + sort ∨ kd = 30 + sort then (match (ri_mts G)[mi]? with
      | some M' =>
        if (kd = 21 ∨ (ri_hh M').isEmpty = true) ∧ ri_nn sort n ≤ st.length ∧ (st.drop (ri_nn sort n)).length ≤ 4 ∧ (sort = 1 ∨ ri_recv G (ri_nm M').cls mem (st.take (ri_nn sort n)).reverse = true) then (match call mi (st.take (ri_nn sort n)).reverse cs mem with
          | some (L, mc, ms, ob) => rq_more mc ms ob (rq_seq (ri_after G M K pc lv (st.drop (ri_nn sort n))) L)
          | none => none) else none
      | none => none)
    else if kd = 7 then (match st with
      | .index _ :: r => if sort = 2 ∧ r.length ≤ 4 then K (pc + 3) lv r cs mem else none
      | _ => none)
    else if kd = 10 then (match st with
      | y :: x :: r => if sort = 1 ∧ ri_k x = 0 ∧ ri_k y = 0 ∧ r.length ≤ 4 then ri_br cs (1, x, y, true) (fun cs' => K (pc + 3) lv (y :: r) cs' mem) (fun cs' => K (pc + 3) lv (x :: r) cs' mem) else none
      | _ => none)
    else if kd = 11 then (match st with
      | y :: x :: r => if sort = 1 ∧ ri_k x = 0 ∧ ri_k y = 0 ∧ r.length ≤ 4 then ri_br cs (1, y, x, true) (fun cs' => K (pc + 3) lv (y :: r) cs' mem) (fun cs' => K (pc + 3) lv (x :: r) cs' mem) else none
      | _ => none)
    else none
  | none => none
theorem rq_inv_eq : rq_inv = ri_inv := by
  funext G call M K sort pc idx lv st cs mem
  unfold rq_inv ri_inv
  rw [rq_more_eq, rq_seq_eq]
  rfl
abbrev rq_S : Type := ri_Call → ri_K → List (Nat × Jvm.Term) → List Jvm.Term → List ri_Cd → ri_Me → Option ri_Rs
def rq_ctl (G : ri_Tb) (M : ri_Mt) (pc : Nat) (i : Instr) (len : Nat) : Option rq_S := match i with
  | .goto off => some (fun call K lv st cs mem => match ri_tg pc off with
    | some t => if len = 3 then K t lv st cs mem else none
    | none => none)
  | .ifCond c off => some (fun call K lv st cs mem => match st, ri_tg pc off with
    | a :: r, some t => if ri_k a = 0 ∧ len = 3 then ri_br cs (ri_cnd c a (.int 0)) (fun cs' => K t lv r cs' mem) (fun cs' => K (pc + 3) lv r cs' mem) else none
    | _, _ => none)
  | .if_icmp c off => some (fun call K lv st cs mem => match st, ri_tg pc off with
    | b :: a :: r, some t => if ri_k a = 0 ∧ ri_k b = 0 ∧ len = 3 then ri_br cs (ri_cnd c a b) (fun cs' => K t lv r cs' mem) (fun cs' => K (pc + 3) lv r cs' mem) else none
    | _, _ => none)
  | .ifnull off => some (fun call K lv st cs mem => match st, ri_tg pc off with
    | a :: r, some t => if len = 3 then (if ri_k a = 3 then K t lv r cs mem else if ri_k a = 2 then K (pc + 3) lv r cs mem else none) else none
    | _, _ => none)
  | .ifnonnull off => some (fun call K lv st cs mem => match st, ri_tg pc off with
    | a :: r, some t => if len = 3 then (if ri_k a = 2 then K t lv r cs mem else if ri_k a = 3 then K (pc + 3) lv r cs mem else none) else none
    | _, _ => none)
  | .tableswitch d lo hi offs => some (fun call K lv st cs mem => match st with
    | x :: r => if ri_k x = 0 ∧ hi = lo + (offs.size : Int) - 1 ∧ -2147483648 ≤ lo ∧ hi < 2147483648 then ri_chain x pc (fun t cs' => K t lv r cs' mem) d (offs.toList.mapIdx (fun j o => (lo + (j : Int), o))) cs else none
    | _ => none)
  | .ireturn => some (fun call K lv st cs mem => if len = 1 then ri_ans M st cs mem ri_okI else none)
  | .areturn => some (fun call K lv st cs mem => if len = 1 then ri_ans M st cs mem ri_okA else none)
  | .dreturn => some (fun call K lv st cs mem => if len = 1 then ri_ans M st cs mem ri_okD else none)
  | .freturn => some (fun call K lv st cs mem => if len = 1 then ri_ans M st cs mem ri_okF else none)
  | .return_ => some (fun call K lv st cs mem => match st, ri_rt M with
    | [], none => if len = 1 then some ([(cs, mem, .inl none)], 0, 0, []) else none
    | _, _ => none)
  | .new ik => some (fun call K lv st cs mem => if len = 3 then ri_thr G M pc ik st cs mem else none)
  | .invokevirtual idx => some (fun call K lv st cs mem => if len = 3 then rq_inv G call M K 0 pc idx lv st cs mem else none)
  | .invokestatic idx => some (fun call K lv st cs mem => if len = 3 then rq_inv G call M K 1 pc idx lv st cs mem else none)
  | .invokespecial idx => some (fun call K lv st cs mem => if len = 3 then rq_inv G call M K 2 pc idx lv st cs mem else none)
  | _ => none
def rq_o2 {α β γ : Type} (o : Option (α → β → Option γ)) (a : α) (b : β) : Option γ := match o with
  | some f => f a b
  | none => none
def rq_o3 {α β δ γ : Type} (o : Option (α → β → δ → Option γ)) (a : α) (b : β) (d : δ) : Option γ := match o with
  | some f => f a b d
  | none => none
def rq_o1 {α γ : Type} (o : Option (α → Option γ)) (a : α) : Option γ := match o with
  | some f => f a
  | none => none
def rq_o6 (o : Option rq_S) (call : ri_Call) (K : ri_K) (lv : List (Nat × Jvm.Term)) (st : List Jvm.Term) (cs : List ri_Cd) (mem : ri_Me) : Option ri_Rs := match o with
  | some f => f call K lv st cs mem
  | none => none
theorem rq_pure_eq {nL : Nat} {i : Instr} {lv : List (Nat × Jvm.Term)} {st : List Jvm.Term} : rq_o2 (rq_pure nL i) lv st = ri_pure nL i lv st := by
  cases i with
  | fconst k => match k with
    | 0 => rfl
    | 1 => rfl
    | 2 => rfl
  | dconst k => match k with
    | 0 => rfl
    | 1 => rfl
  | _ => rfl
theorem rq_heap_eq {G : ri_Tb} {M : ri_Mt} {i : Instr} {cs : List ri_Cd} {st : List Jvm.Term} {mem : ri_Me} : rq_o3 (rq_heap G M i) cs st mem = ri_heap G M cs i st mem := by
  cases i <;> rfl
theorem rq_foc_eq {i : Instr} {st : List Jvm.Term} : rq_o1 (rq_foc i) st = ri_foc i st := by
  cases i with
  | iaload => cases st <;> rfl
  | aaload => cases st <;> rfl
  | laload => cases st <;> rfl
  | iastore => match st with
    | [] => rfl
    | [_] => rfl
    | _ :: _ :: _ => rfl
  | lastore => match st with
    | [] => rfl
    | [_] => rfl
    | _ :: _ :: _ => rfl
  | _ => rfl
theorem rq_ctl_eq {G : ri_Tb} {call : ri_Call} {M : ri_Mt} {K : ri_K} {pc len : Nat} {i : Instr} {lv : List (Nat × Jvm.Term)} {st : List Jvm.Term} {cs : List ri_Cd} {mem : ri_Me} : rq_o6 (rq_ctl G M pc i len) call K lv st cs mem = ri_ctl G call M K pc i len lv st cs mem := by
  cases i with
  | invokevirtual idx => show (if len = 3 then rq_inv G call M K 0 pc idx lv st cs mem else none) = _; rw [rq_inv_eq]; rfl
  | invokestatic idx => show (if len = 3 then rq_inv G call M K 1 pc idx lv st cs mem else none) = _; rw [rq_inv_eq]; rfl
  | invokespecial idx => show (if len = 3 then rq_inv G call M K 2 pc idx lv st cs mem else none) = _; rw [rq_inv_eq]; rfl
  | _ => rfl
/-- what stands at a place -/
def rq_at (G : ri_Tb) (M : ri_Mt) (pc : Nat) : Option rq_S := match (ri_co M)[pc]? with
  | some (some (i, len)) => match rq_pure (ri_mx M) i with
    | some f => some (fun call K lv st cs mem => match f lv st with
      | some (len', lv', st') => if len' = len then K (pc + len) lv' st' cs mem else none
      | none => match ri_heap G M cs i st mem with
        | some x => if x.1 = len then rq_more x.2.2.2.1 x.2.2.2.2.1 x.2.2.2.2.2 (K (pc + len) lv x.2.1 cs x.2.2.1) else none
        | none => match ri_foc i st with
          | some (a, t, r) => if ri_k t = 0 ∧ ri_cst t = false ∧ (ri_bd cs t).2 < (ri_bd cs t).1 + 700 then ri_vals t (fun y cs' => K pc lv (a ++ y :: r) cs' mem) ((ri_bd cs t).2 - (ri_bd cs t).1 + 1).toNat (ri_bd cs t).1 cs else none
          | none => ri_ctl G call M K pc i len lv st cs mem)
    | none => match rq_heap G M i with
      | some g => some (fun call K lv st cs mem => match g cs st mem with
        | some x => if x.1 = len then rq_more x.2.2.2.1 x.2.2.2.2.1 x.2.2.2.2.2 (K (pc + len) lv x.2.1 cs x.2.2.1) else none
        | none => match rq_o1 (rq_foc i) st with
          | some (a, t, r) => if ri_k t = 0 ∧ ri_cst t = false ∧ (ri_bd cs t).2 < (ri_bd cs t).1 + 700 then ri_vals t (fun y cs' => K pc lv (a ++ y :: r) cs' mem) ((ri_bd cs t).2 - (ri_bd cs t).1 + 1).toNat (ri_bd cs t).1 cs else none
          | none => rq_o6 (rq_ctl G M pc i len) call K lv st cs mem)
      | none => match rq_foc i with
        | some _ => none
        | none => rq_ctl G M pc i len
  | _ => none
noncomputable def rq_one (G : ri_Tb) (call : ri_Call) (M : ri_Mt) (K : ri_K) (pc : Nat) (lv : List (Nat × Jvm.Term)) (st : List Jvm.Term) (cs : List ri_Cd) (mem : ri_Me) : Option ri_Rs := rq_F pc (fun pc => rq_o6 (rq_at G M pc) call K lv st cs mem)
theorem rq_nofoc {G : ri_Tb} {M : ri_Mt} {i : Instr} (h : rq_heap G M i = none) : rq_foc i = none := by
  cases i <;> first | rfl | cases h
theorem rq_one_eq {G : ri_Tb} {call : ri_Call} {M : ri_Mt} {K : ri_K} {pc : Nat} {lv : List (Nat × Jvm.Term)} {st : List Jvm.Term} {cs : List ri_Cd} {mem : ri_Me} : rq_one G call M K pc lv st cs mem = ri_one G call M K pc lv st cs mem := by
  unfold rq_one
  rw [rq_F_eq]
  unfold rq_at ri_one
  cases hi : (ri_co M)[pc]? with
  | none => rfl
  | some o =>
    cases o with
    | none => rfl
    | some il =>
      obtain ⟨i, len⟩ := il
      dsimp only
      have e1 := rq_pure_eq (nL := ri_mx M) (i := i) (lv := lv) (st := st)
      have e2 := rq_heap_eq (G := G) (M := M) (i := i) (cs := cs) (st := st) (mem := mem)
      have e3 := rq_foc_eq (i := i) (st := st)
      have e4 := rq_ctl_eq (G := G) (call := call) (M := M) (K := K) (pc := pc) (len := len) (i := i) (lv := lv) (st := st) (cs := cs) (mem := mem)
      cases hp : rq_pure (ri_mx M) i with
      | some f =>
        rw [hp] at e1
        have e1' : f lv st = ri_pure (ri_mx M) i lv st := e1
        rw [← e1', rq_more_eq]
        rfl
      | none =>
        rw [hp] at e1
        have e1' : none = ri_pure (ri_mx M) i lv st := e1
        rw [← e1']
        dsimp only
        cases hh : rq_heap G M i with
        | some g =>
          rw [hh] at e2
          have e2' : g cs st mem = ri_heap G M cs i st mem := e2
          rw [← e2', ← e3, ← e4, rq_more_eq]
          rfl
        | none =>
          rw [hh] at e2
          have e2' : none = ri_heap G M cs i st mem := e2
          rw [← e2', ← e3, rq_nofoc hh, ← e4]
          rfl
noncomputable def rq_runB (G : ri_Tb) (call : ri_Call) (M : ri_Mt) (B : ri_K) (f : Nat) : ri_K := Nat.rec (motive := fun _ => ri_K) B (fun _ K pc lv st cs mem => rq_one G call M K pc lv st cs mem) f
theorem rq_runB_eq {G : ri_Tb} {call : ri_Call} {M : ri_Mt} {B : ri_K} {f : Nat} : rq_runB G call M B f = ri_runB G call M B f := by
  induction f with
  | zero => rfl
  | succ f ih =>
    funext pc lv st cs mem
    show rq_one G call M (rq_runB G call M B f) pc lv st cs mem = ri_one G call M (ri_runB G call M B f) pc lv st cs mem
    rw [rq_one_eq, ih]
noncomputable def rq_call (G : ri_Tb) (fuel d : Nat) : ri_Call := Nat.rec (motive := fun _ => ri_Call) (fun _ _ _ _ => none) (fun _ C mi args cs mem => match (ri_mts G)[mi]? with
    | some M => if ri_lw M = false ∧ (args.map (fun t => if ri_wide t = true then 2 else 1)).sum ≤ ri_mx M then rq_runB G C M ri_B0 fuel 0 (ri_args 0 args) [] cs mem else none
    | none => none) d
theorem rq_call_eq {G : ri_Tb} {fuel d : Nat} : rq_call G fuel d = ri_call G fuel d := by
  induction d with
  | zero => rfl
  | succ d ih =>
    funext mi args cs mem
    show (match (ri_mts G)[mi]? with
      | some M => if ri_lw M = false ∧ (args.map (fun t => if ri_wide t = true then 2 else 1)).sum ≤ ri_mx M then rq_runB G (rq_call G fuel d) M ri_B0 fuel 0 (ri_args 0 args) [] cs mem else none
      | none => none) = _
    rw [ri_call_S, ih]
    simp only [rq_runB_eq]
    rfl
theorem rq_eq {G : ri_Tb} {M : ri_Mt} {B : ri_K} {f fuel d : Nat} : rq_runB G (rq_call G fuel d) M B f = ri_runB G (ri_call G fuel d) M B f := by rw [rq_call_eq, rq_runB_eq]
end RQ
end
