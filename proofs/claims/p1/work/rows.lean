section
/-! ===== BEGIN words of one list among another's, by their places ===== -/
theorem goodIn_r {big : List Cond} (ws : List Cond) (ps : List Nat) (hp : ws = ps.filterMap (fun i => big[i]?)) (h : ws.all goodWord = true) : GoodIn big ws := by
  intro w hw
  have h1 := List.all_eq_true.mp h w hw
  rw [hp] at hw
  obtain ⟨i, -, hi⟩ := List.mem_filterMap.mp hw
  have hm : w ∈ big := by first | exact List.mem_of_getElem? hi | exact List.getElem?_mem hi
  exact ⟨hm, good_of_word h1⟩
theorem goodIn_app {big a b : List Cond} (ha : GoodIn big a) (hb : GoodIn big b) : GoodIn big (a ++ b) := fun w h => (List.mem_append.mp h).elim (ha w) (hb w)
theorem goodIn_ca {big a b : List Cond} {c : Cond} (ha : GoodIn big (c :: a)) (hb : GoodIn big b) : GoodIn big (c :: (a ++ b)) := fun w h => (List.mem_cons.mp h).elim (fun e => ha w (List.mem_cons.mpr (Or.inl e))) (fun h => (List.mem_append.mp h).elim (fun h => ha w (List.mem_cons.mpr (Or.inr h))) (hb w))
theorem goodIn_sub {big ws : List Cond} (hm : ∀ w ∈ ws, w ∈ big) (h : ws.all goodWord = true) : GoodIn big ws := fun w hw => ⟨hm w hw, good_of_word (List.all_eq_true.mp h w hw)⟩
/-! ===== END ===== -/
/-! ===== BEGIN exceptions that leave a method, and their catching by the caller (launches without stack traces) ===== -/
section VXA
/-! The laws vx_back, vx_callV, vx_callS, vx_callSW, vx_throw0, vx_throwS follow proofs of the library, with one case more: JvmDerived/Free/Laws.lean (Back.of_free), Shelf42/LK1.lean (callV, callS), Shelf/KitTraced.lean (throwNew0V, throwNewS). -/
/-- where a method has thrown q: the class by its name, the cell, what was written, the world -/
def vx_T (XC : String → State → State → Prop) (st : State) (q : Addr) (t : State) (mc ms : Nat) (free : Addr → Prop) : Prop :=
  ∃ (E : String) (ce : Cell) (L : List Loc), XC E st t ∧ t.heap[q]? = some ce ∧ ce.vm = .none ∧ st.vm.findClass E = some ce.cls ∧ st.WarmedH t.vm ∧ st.sameButNew ({ t with vm := st.vm } : State) L mc ms ∧ ∀ z ∈ L, free z.base
def vx_Q (Qc : Array Value → State → Outcome → State → Prop) (XC : String → State → State → Prop) (mc ms : Nat) (free : Addr → Prop) : Array Value → State → Outcome → State → Prop := fun a st o t =>
  (Qc a st o t ∧ ∃ L, FrameEnd st o t L mc ms ∧ ∀ q ∈ L, free q.base) ∨ ∃ q, o = .threw q ∧ vx_T XC st q t mc ms free
/-- a callee that returns or throws -/
def vx_Met (l : Launch) (y : MethodName) (ws : List Cond) (rm : Room) (Pc : Array Value → State → Prop) (Qc : Array Value → State → Outcome → State → Prop) (XC : String → State → State → Prop) (mc ms : Nat) (free : Addr → Prop) : Prop :=
  MetFree l y (headSpec ws rm) Pc (fun _ _ _ _ _ => True) (vx_Q Qc XC mc ms free)
def vx_Post (XC : String → State → State → Prop) (mc ms : Nat) (free : Addr → Prop) : Pt → Array Value → Addr → Pt → Prop := fun A a q B =>
  ∃ (g : JFrame) (mk : MethodId) (t : State) (L : List Loc) (E : String) (ce : Cell), B.U.heap = t.heap ∧ B.U.vm = t.vm ∧ XC E (A.U.calling g mk a) t ∧ t.heap[q]? = some ce ∧ ce.vm = .none ∧ A.U.vm.findClass E = some ce.cls ∧ B.locs = A.locs ++ L ∧ (∀ z ∈ L, free z.base) ∧ B.cells = A.cells + mc ∧ B.slots = A.slots + ms
def vx_Back (l : Launch) (R : Room) (p : Program) (e : Env) (below : List Frame) (s : State) (sargs : Array Value) (y : MethodName) (len W9 : Nat)
    (Pre : Pt → Array Value → Prop) (Post : Pt → Array Value → Option Value → Pt → Prop) (PostX : Pt → Array Value → Addr → Pt → Prop) : Prop :=
  ∀ (m : MethodId) (meth : Method) (c : Code) (A : Pt) (g : JFrame) (ig : Instr) (mk : MethodId) (a : Array Value),
    Stand p l e R s m sargs below meth c A.U A.locs A.cells A.slots → g.method = m → g.locals.size = c.maxLocals → decode c.code g.pc = .ok (ig, len) →
    2 * g.monitorRoom + (g.stack.map fun v => v.category).sum ≤ W9 → A.U.methodNamed? y = some mk → Pre A a →
    (∃ (v : Option Value) (B : Pt), Stand p l e R s m sargs below meth c B.U B.locs B.cells B.slots ∧ Post A a v B ∧
      Steps p.tables e below (doInvoke e (A.U.setTop g) [] mk a).1 (B.U.setTop { g with pc := g.pc + len, stack := v.toList ++ g.stack })) ∨
    (∃ (q : Addr) (B : Pt), Stand p l e R s m sargs below meth c B.U B.locs B.cells B.slots ∧ PostX A a q B ∧
      Steps p.tables e below (doInvoke e (A.U.setTop g) [] mk a).1 ((B.U.setTop g).pushFrame (.throwing q)))
section Payer
variable {l : Launch} {R : Room} {p : Program} {e : Env} {below : List Frame} {s : State} {sargs : Array Value} {y : MethodName} {len W9 : Nat}
theorem vx_back {ws : List Cond} {rm : Room} {Pc : Array Value → State → Prop} {Qc : Array Value → State → Outcome → State → Prop} {XC : String → State → State → Prop} {mc ms : Nat} {free : Addr → Prop} {bytes : ByteArray} {maxL : Nat} {ret : Option FieldType}
    (hM : vx_Met l y ws rm Pc Qc XC mc ms free) (hblind : FrameBlind Pc) (hrc : rm.cells = mc) (hrs : rm.slots = ms)
    (hframes : rm.frames + 1 ≤ R.frames) (hlocals : W9 + (maxL + 11) + rm.locals ≤ R.locals)
    (hws : ∀ w ∈ ws, ∀ a' U, s.WarmedH U.vm → w.before a' U = true) (hcode : Cond.code y bytes maxL ret ∈ ws) (hinit : ∀ a' U, s.WarmedH U.vm → (Cond.initialized y.cls).before a' U = true) :
    vx_Back l R p e below s sargs y len W9 (PreOf R mc ms Pc) (PostOf Qc mc ms free) (vx_Post XC mc ms free) := by
  intro m meth c A g ig mk a X hg hsize hdg hW hn hp
  have h1 : (headSpec ws rm).pre.before a A.U = true := atoms_intro fun w hw => hws w hw _ _ X.warmed
  have h2 : (Cond.code y bytes maxL ret).before a A.U = true := hws _ hcode _ _ X.warmed
  have h3 : (Cond.initialized y.cls).before a A.U = true := hinit _ _ X.warmed
  have h4 : A.cells + (headSpec ws rm).room.cells ≤ R.cells := by rw [show (headSpec ws rm).room.cells = mc from hrc]; exact hp.1
  have h5 : A.slots + (headSpec ws rm).room.slots ≤ R.slots := by rw [show (headSpec ws rm).room.slots = ms from hrs]; exact hp.2.1
  have hPc : Pc a (A.U.calling g mk a) := hblind _ _ _ _ hp.2.2
  obtain ⟨U, Ls, c0, s0⟩ := A
  dsimp only [Pt.U, Pt.locs, Pt.cells, Pt.slots] at h1 h2 h3 h4 h5 X hn hPc ⊢
  obtain ⟨methY, cY, hmY, hcY, -, hlY, -, -, -, -⟩ := Cond.code_spec hn h2
  obtain ⟨kY, hkY, -⟩ := className_of_methodNamed hn
  have hinitY : kY.init = .initialized := Cond.initialized_spec (findClass_of_methodNamed hn) hkY h3
  have h : At U g.method c below := by rw [hg]; exact X.here
  have hlocals9 : W9 + (maxL + 11) + (headSpec ws rm).room.locals ≤ R.locals := hlocals
  have happ : (headSpec ws rm).appliesLoose y e.platform (U.calling g mk a) = true :=
    Spec.appliesLoose_calling (g := g) h hdg hn hkY hinitY
      (X.room_calling (g := g) (R' := (headSpec ws rm).room) hsize hmY hcY hframes (by rw [hlY]; omega) h4 h5) h1
  obtain ⟨mid, hmid⟩ := h.above
  have hfr : (U.setTop g).frames = (.java g :: mid) ++ below := by rw [State.frames_setTop' g h.top, hmid]; rfl
  obtain ⟨o, s₂, hsteps, -, hend, hq⟩ := Steps.callFree hM p X.admits X.cas X.clock (acts := []) hfr happ hPc trivial
  have hq' : vx_Q Qc XC mc ms free a (U.calling g mk a) o s₂ := hq
  rw [State.frames_setTop' g h.top] at hend
  obtain ⟨g₀, hg0⟩ := Option.isSome_iff_exists.mp h.top
  obtain ⟨r, hr⟩ := State.topJava?_eq_some.mp hg0
  have hr' : (({ U with heap := s₂.heap, slotsUsed := s₂.slotsUsed } : State).setVm s₂.vm).frames = .java g₀ :: r := hr
  rcases hq' with ⟨hqc, L, hfe, hL⟩ | ⟨q, rfl, E, ce, L, hx, hce, hcv, hcl, hW₂, hsm, hL⟩
  · obtain ⟨⟨v, rfl⟩, hW₂, e2, q2, q3, q4, q5, q6⟩ := id hfe
    have e3 : s₂ = ({ (U.calling g mk a).setFrames s₂.frames with heap := s₂.heap, slotsUsed := s₂.slotsUsed } : State).setVm s₂.vm := by
      have : s₂ = ({ s₂ with vm := (U.calling g mk a).vm } : State).setVm s₂.vm := rfl
      rw [e2] at this
      exact this
    obtain ⟨c₂, i₂, len₂, hc₂, hd₂, hf₂⟩ := hend
    have hW' : U.WarmedH s₂.vm := hW₂
    have hcc : c₂ = c := by
      have h1 : s₂.code? g.method = U.code? g.method := by
        rw [State.code?_eq, State.code?_eq, hW'.alike.method?]
      exact Option.some.inj (hc₂.symm.trans (h1.trans h.code))
    subst hcc
    have hlen : len₂ = len := by rw [hdg] at hd₂; cases hd₂; rfl
    subst hlen
    have hs₂ : s₂ = (({ U with heap := s₂.heap, slotsUsed := s₂.slotsUsed } : State).setVm s₂.vm).setTop { g with pc := g.pc + len₂, stack := v.toList ++ g.stack } := by
      refine e3.trans ?_
      rw [hf₂, State.calling_eq h.top, State.setFrames_setFrames, State.setTop_of_frames _ hr', hr]
      rfl
    have hsame : U.sameButNew ({ U with heap := s₂.heap, slotsUsed := s₂.slotsUsed } : State) L mc ms := by
      refine ⟨?_, q2, q3, q4, q5, q6⟩
      obtain ⟨t, ht, -⟩ := State.frames_cons hr
      show ({ U with heap := s₂.heap, slotsUsed := s₂.slotsUsed } : State) = { U.setFrames U.frames with heap := s₂.heap, slotsUsed := s₂.slotsUsed }
      rw [State.setFrames_self ht]
    subst hg
    refine Or.inl ⟨v, ⟨(({ U with heap := s₂.heap, slotsUsed := s₂.slotsUsed } : State).setVm s₂.vm), Ls ++ L, c0 + mc, s0 + ms⟩,
      ⟨X.admits, X.cas, X.clock, X.frames, X.room, X.hears, X.method, X.code, (X.here.setHeapUsed s₂.heap s₂.slotsUsed).setVm hW'.alike, X.tail, State.WarmedH.trans X.warmed hW', X.limits, X.bytes, X.same.trans (hsame.setVm s.vm)⟩,
      ⟨g, mk, s₂, L, rfl, rfl, hqc, rfl, hL, rfl, rfl⟩, ?_⟩
    show Steps p.tables e below _ ((({ U with heap := s₂.heap, slotsUsed := s₂.slotsUsed } : State).setVm s₂.vm).setTop { g with pc := g.pc + len₂, stack := v.toList ++ g.stack })
    rw [← hs₂]
    exact hsteps
  · obtain ⟨e2, q2, q3, q4, q5, q6⟩ := id hsm
    have e3 : s₂ = ({ (U.calling g mk a).setFrames s₂.frames with heap := s₂.heap, slotsUsed := s₂.slotsUsed } : State).setVm s₂.vm := by
      have : s₂ = ({ s₂ with vm := (U.calling g mk a).vm } : State).setVm s₂.vm := rfl
      rw [e2] at this
      exact this
    have hf₂ : s₂.frames = .throwing q :: .java g :: U.frames.tail := hend
    have hW' : U.WarmedH s₂.vm := hW₂
    have hs₂ : s₂ = ((({ U with heap := s₂.heap, slotsUsed := s₂.slotsUsed } : State).setVm s₂.vm).setTop g).pushFrame (.throwing q) := by
      refine e3.trans ?_
      rw [hf₂, State.calling_eq h.top, State.setFrames_setFrames, State.pushFrame, State.frames_setTop _ hr', State.setTop_of_frames _ hr', State.setFrames_setFrames, hr]
      rfl
    have hsame : U.sameButNew ({ U with heap := s₂.heap, slotsUsed := s₂.slotsUsed } : State) L mc ms := by
      refine ⟨?_, q2, q3, q4, q5, q6⟩
      obtain ⟨t, ht, -⟩ := State.frames_cons hr
      show ({ U with heap := s₂.heap, slotsUsed := s₂.slotsUsed } : State) = { U.setFrames U.frames with heap := s₂.heap, slotsUsed := s₂.slotsUsed }
      rw [State.setFrames_self ht]
    subst hg
    refine Or.inr ⟨q, ⟨(({ U with heap := s₂.heap, slotsUsed := s₂.slotsUsed } : State).setVm s₂.vm), Ls ++ L, c0 + mc, s0 + ms⟩,
      ⟨X.admits, X.cas, X.clock, X.frames, X.room, X.hears, X.method, X.code, (X.here.setHeapUsed s₂.heap s₂.slotsUsed).setVm hW'.alike, X.tail, State.WarmedH.trans X.warmed hW', X.limits, X.bytes, X.same.trans (hsame.setVm s.vm)⟩,
      ⟨g, mk, s₂, L, E, ce, rfl, rfl, hx, hce, hcv, hcl, rfl, hL, rfl, rfl⟩, ?_⟩
    show Steps p.tables e below _ (((({ U with heap := s₂.heap, slotsUsed := s₂.slotsUsed } : State).setVm s₂.vm).setTop g).pushFrame (.throwing q))
    rw [← hs₂]
    exact hsteps
end Payer
section Calls
variable {p : Program} {l : Launch} {e : Env} {R : Room} {s : State} {m : MethodId} {args : Array Value} {below : List Frame} {meth : Method} {c : Code} {T : State} {locs : List Loc} {cells slots : Nat}
theorem vx_callV (X : Stand p l e R s m args below meth c T locs cells slots) (hexec : p.tables.exec = Jvm.exec) {own C : String} {index : Nat} {y : MethodName} {bytes : ByteArray} {maxL : Nat} {ret : Option FieldType}
    (hown : s.vm.findClass own = some m.cls) (hlink : (Cond.methodLink own index y).before args s = true) (hinst : (Cond.instanceMethod y).before args s = true) (hsel : (Cond.selects C y y).before args s = true)
    (hcode : (Cond.code y bytes maxL ret).before args s = true) (hy : y.cls ≠ "java/lang/invoke/MethodHandle" ∧ y.cls ≠ "java/lang/invoke/VarHandle")
    {W9 : Nat} {Pre : Pt → Array Value → Prop} {Post : Pt → Array Value → Option Value → Pt → Prop} {PostX : Pt → Array Value → Addr → Pt → Prop} (hK : vx_Back l R p e below s args y 3 W9 Pre Post PostX)
    {b : Addr} {cellB : Cell} (hcell : T.heap[b]? = some cellB) (hobj : cellB.vm.isStatics = false) (hcls : s.vm.findClass C = some cellB.cls)
    {g : JFrame} (hg : g.method = m) (hsize : g.locals.size = c.maxLocals) {argsL rest : List Value} (hlen : ∀ sig, parseMethodDescriptor y.desc = some sig → argsL.length = sig.parameters.length)
    (hstack : g.stack = argsL.reverse ++ .ref b :: rest) (hW : 2 * g.monitorRoom + (rest.map fun v => v.category).sum ≤ W9) (hdg : decode c.code g.pc = .ok (.invokevirtual index, 3))
    (hpre : ∀ vm₁, s.WarmedH vm₁ → Pre ⟨T.setVm vm₁, locs, cells, slots⟩ (Value.ref b :: argsL).toArray) :
    (∃ (v : Option Value) (vm₁ : Vm) (B : Pt), s.WarmedH vm₁ ∧ Stand p l e R s m args below meth c B.U B.locs B.cells B.slots ∧ Post ⟨T.setVm vm₁, locs, cells, slots⟩ (Value.ref b :: argsL).toArray v B ∧
      ∀ target, Steps p.tables e below (B.U.setTop { g with pc := g.pc + 3, stack := v.toList ++ rest }) target → Steps p.tables e below (T.setTop g) target) ∨
    (∃ (q : Addr) (vm₁ : Vm) (B : Pt), s.WarmedH vm₁ ∧ Stand p l e R s m args below meth c B.U B.locs B.cells B.slots ∧ PostX ⟨T.setVm vm₁, locs, cells, slots⟩ (Value.ref b :: argsL).toArray q B ∧
      Steps p.tables e below (T.setTop g) ((B.U.setTop { g with stack := rest }).pushFrame (.throwing q))) := by
  obtain ⟨mk, methM, hnamed, hmethM, hstM, habM⟩ := Cond.instanceMethod_spec hinst
  obtain ⟨methM', cM, hmethM', -, -, -, -, -, -, hsigM⟩ := Cond.code_spec hnamed hcode
  cases hmethM.symm.trans hmethM'
  obtain ⟨c2, r2, m2, q1, q2, q3, q4, kP, hkP, hkPi⟩ := Cond.selects_spec hsel
  cases hcls.symm.trans q1
  cases (State.methodFound?_of_named hnamed hy).symm.trans q2
  cases hnamed.symm.trans q3
  have hselP : selectMethod e.platform s.vm cellB.cls mk = .method mk := by rw [Launch.admits_selectMethod X.admits]; exact q4
  obtain ⟨vm₁, X₁, hstep₁⟩ := X.invokevirtual hexec hown hlink hnamed hmethM hstM hkP hkPi hy (a := b) (cell := cellB) hcell
    (fun z h => by rw [h] at hobj; cases hobj) hselP hmethM habM hkP hkPi (g := g) hg (argsL := argsL) (rest := rest) (hlen _ hsigM) hstack hdg
  rcases hK m meth c ⟨T.setVm vm₁, locs, cells, slots⟩ { g with stack := rest } (.invokevirtual index) mk (Value.ref b :: argsL).toArray X₁ hg hsize hdg hW (X₁.named hnamed) (hpre vm₁ X₁.warmed) with ⟨v, B, X', hpost, hsteps⟩ | ⟨q, B, X', hpost, hsteps⟩
  · exact Or.inl ⟨v, vm₁, B, X₁.warmed, X', hpost, fun target h => hstep₁ _ fun acts => by rw [doInvoke_state]; exact hsteps.trans h⟩
  · exact Or.inr ⟨q, vm₁, B, X₁.warmed, X', hpost, hstep₁ _ fun acts => by rw [doInvoke_state]; exact hsteps⟩
theorem vx_callS (X : Stand p l e R s m args below meth c T locs cells slots) (hexec : p.tables.exec = Jvm.exec) {own : String} {index : Nat} {y : MethodName} {bytes : ByteArray} {maxL : Nat} {ret : Option FieldType}
    (hown : s.vm.findClass own = some m.cls) (hlink : (Cond.methodLink own index y).before args s = true) (hstat : (Cond.static y).before args s = true) (hinit : (Cond.initialized y.cls).before args s = true)
    (hcode : (Cond.code y bytes maxL ret).before args s = true) (hy : y.cls ≠ "java/lang/invoke/MethodHandle" ∧ y.cls ≠ "java/lang/invoke/VarHandle")
    {W9 : Nat} {Pre : Pt → Array Value → Prop} {Post : Pt → Array Value → Option Value → Pt → Prop} {PostX : Pt → Array Value → Addr → Pt → Prop} (hK : vx_Back l R p e below s args y 3 W9 Pre Post PostX)
    {g : JFrame} (hg : g.method = m) (hsize : g.locals.size = c.maxLocals) {argsL rest : List Value} (hlen : ∀ sig, parseMethodDescriptor y.desc = some sig → argsL.length = sig.parameters.length)
    (hstack : g.stack = argsL.reverse ++ rest) (hW : 2 * g.monitorRoom + (rest.map fun v => v.category).sum ≤ W9) (hdg : decode c.code g.pc = .ok (.invokestatic index, 3))
    (hpre : ∀ vm₁, s.WarmedH vm₁ → Pre ⟨T.setVm vm₁, locs, cells, slots⟩ argsL.toArray) :
    (∃ (v : Option Value) (vm₁ : Vm) (B : Pt), s.WarmedH vm₁ ∧ Stand p l e R s m args below meth c B.U B.locs B.cells B.slots ∧ Post ⟨T.setVm vm₁, locs, cells, slots⟩ argsL.toArray v B ∧
      ∀ target, Steps p.tables e below (B.U.setTop { g with pc := g.pc + 3, stack := v.toList ++ rest }) target → Steps p.tables e below (T.setTop g) target) ∨
    (∃ (q : Addr) (vm₁ : Vm) (B : Pt), s.WarmedH vm₁ ∧ Stand p l e R s m args below meth c B.U B.locs B.cells B.slots ∧ PostX ⟨T.setVm vm₁, locs, cells, slots⟩ argsL.toArray q B ∧
      Steps p.tables e below (T.setTop g) ((B.U.setTop { g with stack := rest }).pushFrame (.throwing q))) := by
  obtain ⟨mk, hnamed⟩ := Cond.code_named hcode
  obtain ⟨methM, cM, hmethM, -, -, -, -, -, -, hsigM⟩ := Cond.code_spec hnamed hcode
  have hstatic : methM.isStatic = true := Cond.static_spec hnamed hmethM hstat
  obtain ⟨kP, hkP, -⟩ := className_of_methodNamed hnamed
  have hinitP : kP.init = .initialized := Cond.initialized_spec (findClass_of_methodNamed hnamed) hkP hinit
  obtain ⟨vm₁, X₁, hstep₁⟩ := X.invokestatic hexec hown hlink hnamed hmethM hstatic hkP hinitP hy (g := g) hg (argsL := argsL) (rest := rest) (hlen _ hsigM) hstack hdg
  rcases hK m meth c ⟨T.setVm vm₁, locs, cells, slots⟩ { g with stack := rest } (.invokestatic index) mk argsL.toArray X₁ hg hsize hdg hW (X₁.named hnamed) (hpre vm₁ X₁.warmed) with ⟨v, B, X', hpost, hsteps⟩ | ⟨q, B, X', hpost, hsteps⟩
  · exact Or.inl ⟨v, vm₁, B, X₁.warmed, X', hpost, fun target h => hstep₁ _ fun acts => by rw [doInvoke_state]; exact hsteps.trans h⟩
  · exact Or.inr ⟨q, vm₁, B, X₁.warmed, X', hpost, hstep₁ _ fun acts => by rw [doInvoke_state]; exact hsteps⟩
end Calls
theorem vx_cls {s : State} {T : State} {vm₁ : Vm} {E : String} {k : ClassId} (hW : s.WarmedH vm₁) (h : (T.setVm vm₁).vm.findClass E = some k) : s.vm.findClass E = some k := by
  have h1 : vm₁.findClass E = some k := h
  rw [hW.alike.findClass] at h1
  exact h1
/-- the method's frame g, with q thrown over it -/
def vx_W (p : Program) (l : Launch) (e : Env) (R : Room) (s : State) (m : MethodId) (args : Array Value) (below : List Frame) (meth : Method) (c : Code) (H : Heap) (locs : List Loc) (cells slots : Nat) (Q : State → Prop) (g : JFrame) (q : Addr) : Prop :=
  ∀ T : State, T.heap = H → Stand p l e R s m args below meth c T locs cells slots → ∃ t, Steps p.tables e below ((T.setTop g).pushFrame (.throwing q)) t ∧ Q t
def vx_Run (p : Program) (l : Launch) (e : Env) (R : Room) (s : State) (m : MethodId) (args : Array Value) (below : List Frame) (meth : Method) (c : Code) (H : Heap) (locs : List Loc) (cells slots mc ms : Nat) (g : JFrame) (rest : List Value) (Qa : State → Outcome → State → Prop) (XC : String → State → State → Prop) (free : Addr → Prop) : Prop :=
  ∀ T : State, T.heap = H → Stand p l e R s m args below meth c T locs cells slots →
    (∃ (v : Option Value) (st₀ t T' : State) (L : List Loc), st₀.heap = H ∧ Stand p l e R s m args below meth c T' (locs ++ L) (cells + mc) (slots + ms) ∧ (∀ q ∈ L, free q.base) ∧ T'.heap = t.heap ∧ T'.vm = t.vm ∧ Qa st₀ (.returned v) t ∧
      Goes p e below T g T' { g with pc := g.pc + 3, stack := v.toList ++ rest }) ∨
    (∃ (q : Addr) (st₀ t T' : State) (L : List Loc) (E : String) (ce : Cell), st₀.heap = H ∧ Stand p l e R s m args below meth c T' (locs ++ L) (cells + mc) (slots + ms) ∧ (∀ z ∈ L, free z.base) ∧ T'.heap = t.heap ∧ T'.vm = t.vm ∧ XC E st₀ t ∧ t.heap[q]? = some ce ∧ ce.vm = .none ∧ s.vm.findClass E = some ce.cls ∧
      Steps p.tables e below (T.setTop g) ((T'.setTop { g with stack := rest }).pushFrame (.throwing q)))
def vx_X {S : Type} (px : S → Prop) (B : String → S → State → Prop) (A : Nat → Prop) : String → State → State → Prop := fun E st t => ∃ u : S, px u ∧ B E u t ∧ va_F A st t
section Runs
variable {p : Program} {l : Launch} {e : Env} {R : Room} {s : State} {m : MethodId} {args : Array Value} {below : List Frame} {meth : Method} {c : Code} {H : Heap} {locs : List Loc} {cells slots : Nat}
variable {y : MethodName} {bytes cc : ByteArray} {maxL nL mc ms n index : Nat} {ret : Option FieldType} {ws : List Cond} {rm : Room} {Pc : Array Value → State → Prop} {Qc : Array Value → State → Outcome → State → Prop} {XC : String → State → State → Prop} {free : Addr → Prop} {Ts : List Cond} {own C : String} {b : Addr} {As rest : List Value} {g : JFrame}
theorem vx_callBack (cb : CallB R s args own index y bytes maxL ret ws rm mc ms n) (hM : vx_Met l y ws rm Pc Qc XC mc ms free) (hbl : FrameBlind Pc) : vx_Back l R p e below s args y 3 8 (PreOf R mc ms Pc) (PostOf Qc mc ms free) (vx_Post XC mc ms free) := by
  obtain ⟨hrc, hrs, hfr, hlo, hws, hcw, -, hini, -⟩ := cb
  exact vx_back (bytes := bytes) (maxL := maxL) (ret := ret) hM hbl hrc hrs hfr hlo hws hcw (fun a' U hW => word_at hW (Or.inl (by first | rfl | simp [Cond.onTables, Cond.keeps, Cond.steady])) hini)
theorem vx_runV (S : CallFix p m c cc nL s args Ts own) (hM : vx_Met l y ws rm Pc Qc XC mc ms free) (cw : CallW R s args own C index y bytes maxL ret ws rm mc ms n) (hp : PreV s H C b Pc As)
    (hg : g.method = m) (hn : As.length = n) (hsize : g.locals.size = nL) (hstack : g.stack = As.reverse ++ .ref b :: rest) (hW : 2 * g.monitorRoom + (rest.map fun v => v.category).sum ≤ 8) (hdg : decode cc g.pc = .ok (.invokevirtual index, 3)) (hf : cells + mc ≤ R.cells ∧ slots + ms ≤ R.slots) :
    vx_Run p l e R s m args below meth c H locs cells slots mc ms g rest (Qc (Value.ref b :: As).toArray) XC free := by
  have hK : vx_Back l R p e below s args y 3 8 (PreOf R mc ms Pc) (PostOf Qc mc ms free) (vx_Post XC mc ms free) := vx_callBack cw.1 hM hp.1
  obtain ⟨⟨-, -, -, -, -, -, hcode, -, hy, hlen, hl⟩, hin, hse⟩ := cw
  obtain ⟨hx, hb, hml, ho, -⟩ := S
  obtain ⟨-, ⟨cellB, hcB, hoB, hclB⟩, hPc⟩ := hp
  intro T hT X
  rcases vx_callV X hx (C := C) (bytes := bytes) (maxL := maxL) (ret := ret) ho hl hin hse hcode hy hK (by rw [hT]; exact hcB) hoB hclB hg (hsize.trans hml.symm) (argsL := As) (rest := rest) (fun sig h => hn.trans (hlen sig h)) hstack hW (by rw [hb]; exact hdg)
    (fun vm₁ hW₁ => ⟨hf.1, hf.2, hPc (T.setVm vm₁) hT hW₁⟩) with ⟨v, vm₁, ⟨U', l2, c2, s2⟩, hW₁, X', ⟨g', mk, t, L, e1, e2, hq, h1, hL, h2, h3⟩, st⟩ | ⟨q, vm₁, ⟨U', l2, c2, s2⟩, hW₁, X', ⟨g', mk, t, L, E, ce, e1, e2, hq, hce, hcv, hcl, h1, hL, h2, h3⟩, st⟩
  · dsimp only [Pt.U, Pt.locs, Pt.cells, Pt.slots] at X' e1 e2 h1 h2 h3 st
    subst h1; subst h2; subst h3
    exact Or.inl ⟨v, (T.setVm vm₁).calling g' mk (Value.ref b :: As).toArray, t, U', L, hT, X', hL, e1, e2, hq, st⟩
  · dsimp only [Pt.U, Pt.locs, Pt.cells, Pt.slots] at X' e1 e2 h1 h2 h3 st hcl
    subst h1; subst h2; subst h3
    exact Or.inr ⟨q, (T.setVm vm₁).calling g' mk (Value.ref b :: As).toArray, t, U', L, E, ce, hT, X', hL, e1, e2, hq, hce, hcv, vx_cls hW₁ hcl, st⟩
theorem vx_runS (S : CallFix p m c cc nL s args Ts own) (hM : vx_Met l y ws rm Pc Qc XC mc ms free) (cw : CallB R s args own index y bytes maxL ret ws rm mc ms n ∧ (Cond.static y).before args s = true) (hp : PreS s H Pc As)
    (hg : g.method = m) (hn : As.length = n) (hsize : g.locals.size = nL) (hstack : g.stack = As.reverse ++ rest) (hW : 2 * g.monitorRoom + (rest.map fun v => v.category).sum ≤ 8) (hdg : decode cc g.pc = .ok (.invokestatic index, 3)) (hf : cells + mc ≤ R.cells ∧ slots + ms ≤ R.slots) :
    vx_Run p l e R s m args below meth c H locs cells slots mc ms g rest (Qc As.toArray) XC free := by
  have hK : vx_Back l R p e below s args y 3 8 (PreOf R mc ms Pc) (PostOf Qc mc ms free) (vx_Post XC mc ms free) := vx_callBack cw.1 hM hp.1
  obtain ⟨⟨-, -, -, -, -, -, hcode, hini, hy, hlen, hl⟩, hstt⟩ := cw
  obtain ⟨hx, hb, hml, ho, -⟩ := S
  intro T hT X
  rcases vx_callS X hx (bytes := bytes) (maxL := maxL) (ret := ret) ho hl hstt hini hcode hy hK hg (hsize.trans hml.symm) (argsL := As) (rest := rest) (fun sig h => hn.trans (hlen sig h)) hstack hW (by rw [hb]; exact hdg)
    (fun vm₁ hW₁ => ⟨hf.1, hf.2, hp.2 (T.setVm vm₁) hT hW₁⟩) with ⟨v, vm₁, ⟨U', l2, c2, s2⟩, hW₁, X', ⟨g', mk, t, L, e1, e2, hq, h1, hL, h2, h3⟩, st⟩ | ⟨q, vm₁, ⟨U', l2, c2, s2⟩, hW₁, X', ⟨g', mk, t, L, E, ce, e1, e2, hq, hce, hcv, hcl, h1, hL, h2, h3⟩, st⟩
  · dsimp only [Pt.U, Pt.locs, Pt.cells, Pt.slots] at X' e1 e2 h1 h2 h3 st
    subst h1; subst h2; subst h3
    exact Or.inl ⟨v, (T.setVm vm₁).calling g' mk As.toArray, t, U', L, hT, X', hL, e1, e2, hq, st⟩
  · dsimp only [Pt.U, Pt.locs, Pt.cells, Pt.slots] at X' e1 e2 h1 h2 h3 st hcl
    subst h1; subst h2; subst h3
    exact Or.inr ⟨q, (T.setVm vm₁).calling g' mk As.toArray, t, U', L, E, ce, hT, X', hL, e1, e2, hq, hce, hcv, vx_cls hW₁ hcl, st⟩
end Runs
section Rows
variable {p : Program} {l : Launch} {e : Env} {R : Room} {s : State} {m : MethodId} {args : Array Value} {below : List Frame} {meth : Method} {c : Code} {H : Heap} {locs : List Loc} {cells slots : Nat} {Q : State → Prop}
variable {mc ms : Nat} {free : Addr → Prop} {A0 A1 : Nat → Prop} {H0 : Heap} {a : Array Value} {pc : Nat} {ls : Array Slot} {st0 rest : List Value}
theorem vx_keep {st₀ t T' : State} {L : List Loc} (h0 : st₀.heap = H) (e1 : T'.heap = t.heap) (hS : va_S A0 H0 H locs) (hA : ∀ q, q < H.size → A1 q → A0 q) (hf : ∀ q, free q → A0 q) (hL : ∀ q ∈ L, free q.base) (hF : va_F A1 st₀ t) :
    H.size ≤ T'.heap.size ∧ (∀ q : Nat, q < H.size → ¬ A1 q → T'.heap[q]? = H[q]?) ∧ va_S A0 H0 T'.heap (locs ++ L) := by
  obtain ⟨hz, hk⟩ := hF
  rw [h0] at hz hk
  exact ⟨by rw [e1]; exact hz, fun q h1 h2 => by rw [e1]; exact hk q h1 h2,
    ⟨Nat.le_trans hS.1 (by rw [e1]; exact hz), fun q h1 h2 => by rw [e1, hk q (Nat.lt_of_lt_of_le h1 hS.1) (fun z => h2 (hA q (Nat.lt_of_lt_of_le h1 hS.1) z))]; exact hS.2.1 q h1 h2, fun q hq => by
      rcases List.mem_append.mp hq with h | h
      · exact hS.2.2 q h
      · exact hf _ (hL q h)⟩⟩
theorem vx_calli {S SX : Type} {post : Int32 → S → Prop} {px : SX → Prop} {B : S → State → Prop} {BX : String → SX → State → Prop} {AX : Nat → Prop} (hr : vx_Run p l e R s m args below meth c H locs cells slots mc ms (F0 m pc ls st0) rest (va_Qi post B A1 a) (vx_X px BX AX) free) (hS : va_S A0 H0 H locs) (hA : ∀ q, q < H.size → A1 q → A0 q) (hf : ∀ q, free q → A0 q) (hAX : ∀ q, q < H.size → AX q → A0 q)
    (kx : ∀ (E : String) (ce : Cell) (q9 : Addr) (u : SX) (t : State) (H1 : Heap) (locs1 : List Loc), t.heap = H1 → s.vm.Alike t.vm → px u → BX E u t → H.size ≤ H1.size → (∀ q : Nat, q < H.size → ¬ AX q → H1[q]? = H[q]?) → va_S A0 H0 H1 locs1 → H1[q9]? = some ce → ce.vm = .none → s.vm.findClass E = some ce.cls → vx_W p l e R s m args below meth c H1 locs1 (cells + mc) (slots + ms) Q (F0 m pc ls rest) q9)
    (kk : ∀ (r : Int32) (u : S) (t : State) (H1 : Heap) (locs1 : List Loc), t.heap = H1 → s.vm.Alike t.vm → post r u → B u t → H.size ≤ H1.size → (∀ q : Nat, q < H.size → ¬ A1 q → H1[q]? = H[q]?) → va_S A0 H0 H1 locs1 → W p l e R s m args below meth c H1 locs1 (cells + mc) (slots + ms) Q (F0 m (pc + 3) ls (.int r :: rest))) : W p l e R s m args below meth c H locs cells slots Q (F0 m pc ls st0) := by
  intro T hT X
  rcases hr T hT X with ⟨v, st₀, t, T', L, h0, X', hL, e1, e2, ⟨⟨r, u, hv, hp, hb⟩, hF⟩, st⟩ | ⟨q, st₀, t, T', L, E, ce, h0, X', hL, e1, e2, ⟨u, hp, hb, hF⟩, hce, hcv, hcl, st⟩
  · cases hv
    obtain ⟨k1, k2, k3⟩ := vx_keep h0 e1 hS hA hf hL hF
    obtain ⟨t2, a1, b1⟩ := kk r u t T'.heap (locs ++ L) e1.symm (by rw [← e2]; exact X'.warmed.alike) hp hb k1 k2 k3 T' rfl X'
    exact ⟨t2, st t2 a1, b1⟩
  · obtain ⟨k1, k2, k3⟩ := vx_keep h0 e1 hS hAX hf hL hF
    obtain ⟨t2, a1, b1⟩ := kx E ce q u t T'.heap (locs ++ L) e1.symm (by rw [← e2]; exact X'.warmed.alike) hp hb k1 k2 k3 (by rw [e1]; exact hce) hcv hcl T' rfl X'
    exact ⟨t2, st.trans a1, b1⟩
theorem vx_calll {S SX : Type} {post : Int64 → S → Prop} {px : SX → Prop} {B : S → State → Prop} {BX : String → SX → State → Prop} {AX : Nat → Prop} (hr : vx_Run p l e R s m args below meth c H locs cells slots mc ms (F0 m pc ls st0) rest (va_Ql post B A1 a) (vx_X px BX AX) free) (hS : va_S A0 H0 H locs) (hA : ∀ q, q < H.size → A1 q → A0 q) (hf : ∀ q, free q → A0 q) (hAX : ∀ q, q < H.size → AX q → A0 q)
    (kx : ∀ (E : String) (ce : Cell) (q9 : Addr) (u : SX) (t : State) (H1 : Heap) (locs1 : List Loc), t.heap = H1 → s.vm.Alike t.vm → px u → BX E u t → H.size ≤ H1.size → (∀ q : Nat, q < H.size → ¬ AX q → H1[q]? = H[q]?) → va_S A0 H0 H1 locs1 → H1[q9]? = some ce → ce.vm = .none → s.vm.findClass E = some ce.cls → vx_W p l e R s m args below meth c H1 locs1 (cells + mc) (slots + ms) Q (F0 m pc ls rest) q9)
    (kk : ∀ (r : Int64) (u : S) (t : State) (H1 : Heap) (locs1 : List Loc), t.heap = H1 → s.vm.Alike t.vm → post r u → B u t → H.size ≤ H1.size → (∀ q : Nat, q < H.size → ¬ A1 q → H1[q]? = H[q]?) → va_S A0 H0 H1 locs1 → W p l e R s m args below meth c H1 locs1 (cells + mc) (slots + ms) Q (F0 m (pc + 3) ls (.long r :: rest))) : W p l e R s m args below meth c H locs cells slots Q (F0 m pc ls st0) := by
  intro T hT X
  rcases hr T hT X with ⟨v, st₀, t, T', L, h0, X', hL, e1, e2, ⟨⟨r, u, hv, hp, hb⟩, hF⟩, st⟩ | ⟨q, st₀, t, T', L, E, ce, h0, X', hL, e1, e2, ⟨u, hp, hb, hF⟩, hce, hcv, hcl, st⟩
  · cases hv
    obtain ⟨k1, k2, k3⟩ := vx_keep h0 e1 hS hA hf hL hF
    obtain ⟨t2, a1, b1⟩ := kk r u t T'.heap (locs ++ L) e1.symm (by rw [← e2]; exact X'.warmed.alike) hp hb k1 k2 k3 T' rfl X'
    exact ⟨t2, st t2 a1, b1⟩
  · obtain ⟨k1, k2, k3⟩ := vx_keep h0 e1 hS hAX hf hL hF
    obtain ⟨t2, a1, b1⟩ := kx E ce q u t T'.heap (locs ++ L) e1.symm (by rw [← e2]; exact X'.warmed.alike) hp hb k1 k2 k3 (by rw [e1]; exact hce) hcv hcl T' rfl X'
    exact ⟨t2, st.trans a1, b1⟩
theorem vx_callf {S SX : Type} {post : UInt32 → S → Prop} {px : SX → Prop} {B : S → State → Prop} {BX : String → SX → State → Prop} {AX : Nat → Prop} (hr : vx_Run p l e R s m args below meth c H locs cells slots mc ms (F0 m pc ls st0) rest (va_Qf post B A1 a) (vx_X px BX AX) free) (hS : va_S A0 H0 H locs) (hA : ∀ q, q < H.size → A1 q → A0 q) (hf : ∀ q, free q → A0 q) (hAX : ∀ q, q < H.size → AX q → A0 q)
    (kx : ∀ (E : String) (ce : Cell) (q9 : Addr) (u : SX) (t : State) (H1 : Heap) (locs1 : List Loc), t.heap = H1 → s.vm.Alike t.vm → px u → BX E u t → H.size ≤ H1.size → (∀ q : Nat, q < H.size → ¬ AX q → H1[q]? = H[q]?) → va_S A0 H0 H1 locs1 → H1[q9]? = some ce → ce.vm = .none → s.vm.findClass E = some ce.cls → vx_W p l e R s m args below meth c H1 locs1 (cells + mc) (slots + ms) Q (F0 m pc ls rest) q9)
    (kk : ∀ (r : UInt32) (u : S) (t : State) (H1 : Heap) (locs1 : List Loc), t.heap = H1 → s.vm.Alike t.vm → post r u → B u t → H.size ≤ H1.size → (∀ q : Nat, q < H.size → ¬ A1 q → H1[q]? = H[q]?) → va_S A0 H0 H1 locs1 → W p l e R s m args below meth c H1 locs1 (cells + mc) (slots + ms) Q (F0 m (pc + 3) ls (.float r :: rest))) : W p l e R s m args below meth c H locs cells slots Q (F0 m pc ls st0) := by
  intro T hT X
  rcases hr T hT X with ⟨v, st₀, t, T', L, h0, X', hL, e1, e2, ⟨⟨r, u, hv, hp, hb⟩, hF⟩, st⟩ | ⟨q, st₀, t, T', L, E, ce, h0, X', hL, e1, e2, ⟨u, hp, hb, hF⟩, hce, hcv, hcl, st⟩
  · cases hv
    obtain ⟨k1, k2, k3⟩ := vx_keep h0 e1 hS hA hf hL hF
    obtain ⟨t2, a1, b1⟩ := kk r u t T'.heap (locs ++ L) e1.symm (by rw [← e2]; exact X'.warmed.alike) hp hb k1 k2 k3 T' rfl X'
    exact ⟨t2, st t2 a1, b1⟩
  · obtain ⟨k1, k2, k3⟩ := vx_keep h0 e1 hS hAX hf hL hF
    obtain ⟨t2, a1, b1⟩ := kx E ce q u t T'.heap (locs ++ L) e1.symm (by rw [← e2]; exact X'.warmed.alike) hp hb k1 k2 k3 (by rw [e1]; exact hce) hcv hcl T' rfl X'
    exact ⟨t2, st.trans a1, b1⟩
theorem vx_calld {S SX : Type} {post : UInt64 → S → Prop} {px : SX → Prop} {B : S → State → Prop} {BX : String → SX → State → Prop} {AX : Nat → Prop} (hr : vx_Run p l e R s m args below meth c H locs cells slots mc ms (F0 m pc ls st0) rest (va_Qd post B A1 a) (vx_X px BX AX) free) (hS : va_S A0 H0 H locs) (hA : ∀ q, q < H.size → A1 q → A0 q) (hf : ∀ q, free q → A0 q) (hAX : ∀ q, q < H.size → AX q → A0 q)
    (kx : ∀ (E : String) (ce : Cell) (q9 : Addr) (u : SX) (t : State) (H1 : Heap) (locs1 : List Loc), t.heap = H1 → s.vm.Alike t.vm → px u → BX E u t → H.size ≤ H1.size → (∀ q : Nat, q < H.size → ¬ AX q → H1[q]? = H[q]?) → va_S A0 H0 H1 locs1 → H1[q9]? = some ce → ce.vm = .none → s.vm.findClass E = some ce.cls → vx_W p l e R s m args below meth c H1 locs1 (cells + mc) (slots + ms) Q (F0 m pc ls rest) q9)
    (kk : ∀ (r : UInt64) (u : S) (t : State) (H1 : Heap) (locs1 : List Loc), t.heap = H1 → s.vm.Alike t.vm → post r u → B u t → H.size ≤ H1.size → (∀ q : Nat, q < H.size → ¬ A1 q → H1[q]? = H[q]?) → va_S A0 H0 H1 locs1 → W p l e R s m args below meth c H1 locs1 (cells + mc) (slots + ms) Q (F0 m (pc + 3) ls (.double r :: rest))) : W p l e R s m args below meth c H locs cells slots Q (F0 m pc ls st0) := by
  intro T hT X
  rcases hr T hT X with ⟨v, st₀, t, T', L, h0, X', hL, e1, e2, ⟨⟨r, u, hv, hp, hb⟩, hF⟩, st⟩ | ⟨q, st₀, t, T', L, E, ce, h0, X', hL, e1, e2, ⟨u, hp, hb, hF⟩, hce, hcv, hcl, st⟩
  · cases hv
    obtain ⟨k1, k2, k3⟩ := vx_keep h0 e1 hS hA hf hL hF
    obtain ⟨t2, a1, b1⟩ := kk r u t T'.heap (locs ++ L) e1.symm (by rw [← e2]; exact X'.warmed.alike) hp hb k1 k2 k3 T' rfl X'
    exact ⟨t2, st t2 a1, b1⟩
  · obtain ⟨k1, k2, k3⟩ := vx_keep h0 e1 hS hAX hf hL hF
    obtain ⟨t2, a1, b1⟩ := kx E ce q u t T'.heap (locs ++ L) e1.symm (by rw [← e2]; exact X'.warmed.alike) hp hb k1 k2 k3 (by rw [e1]; exact hce) hcv hcl T' rfl X'
    exact ⟨t2, st.trans a1, b1⟩
theorem vx_callv {S SX : Type} {post : S → Prop} {px : SX → Prop} {B : S → State → Prop} {BX : String → SX → State → Prop} {AX : Nat → Prop} (hr : vx_Run p l e R s m args below meth c H locs cells slots mc ms (F0 m pc ls st0) rest (va_Qv post B A1 a) (vx_X px BX AX) free) (hS : va_S A0 H0 H locs) (hA : ∀ q, q < H.size → A1 q → A0 q) (hf : ∀ q, free q → A0 q) (hAX : ∀ q, q < H.size → AX q → A0 q)
    (kx : ∀ (E : String) (ce : Cell) (q9 : Addr) (u : SX) (t : State) (H1 : Heap) (locs1 : List Loc), t.heap = H1 → s.vm.Alike t.vm → px u → BX E u t → H.size ≤ H1.size → (∀ q : Nat, q < H.size → ¬ AX q → H1[q]? = H[q]?) → va_S A0 H0 H1 locs1 → H1[q9]? = some ce → ce.vm = .none → s.vm.findClass E = some ce.cls → vx_W p l e R s m args below meth c H1 locs1 (cells + mc) (slots + ms) Q (F0 m pc ls rest) q9)
    (kk : ∀ (u : S) (t : State) (H1 : Heap) (locs1 : List Loc), t.heap = H1 → s.vm.Alike t.vm → post u → B u t → H.size ≤ H1.size → (∀ q : Nat, q < H.size → ¬ A1 q → H1[q]? = H[q]?) → va_S A0 H0 H1 locs1 → W p l e R s m args below meth c H1 locs1 (cells + mc) (slots + ms) Q (F0 m (pc + 3) ls (rest))) : W p l e R s m args below meth c H locs cells slots Q (F0 m pc ls st0) := by
  intro T hT X
  rcases hr T hT X with ⟨v, st₀, t, T', L, h0, X', hL, e1, e2, ⟨⟨u, hv, hp, hb⟩, hF⟩, st⟩ | ⟨q, st₀, t, T', L, E, ce, h0, X', hL, e1, e2, ⟨u, hp, hb, hF⟩, hce, hcv, hcl, st⟩
  · cases hv
    obtain ⟨k1, k2, k3⟩ := vx_keep h0 e1 hS hA hf hL hF
    obtain ⟨t2, a1, b1⟩ := kk u t T'.heap (locs ++ L) e1.symm (by rw [← e2]; exact X'.warmed.alike) hp hb k1 k2 k3 T' rfl X'
    exact ⟨t2, st t2 a1, b1⟩
  · obtain ⟨k1, k2, k3⟩ := vx_keep h0 e1 hS hAX hf hL hF
    obtain ⟨t2, a1, b1⟩ := kx E ce q u t T'.heap (locs ++ L) e1.symm (by rw [← e2]; exact X'.warmed.alike) hp hb k1 k2 k3 (by rw [e1]; exact hce) hcv hcl T' rfl X'
    exact ⟨t2, st.trans a1, b1⟩
/-- caught by the row x of this method's table; the rows ahead don't take it -/
theorem vx_catch {own name : String} {E : String} {ce : Cell} {q : Addr} (hown : s.vm.findClass own = some m.cls) (pre : List ExceptionTableEntry) (x : ExceptionTableEntry) (suf : List ExceptionTableEntry) (hsplit : c.exceptionTable.toList = pre ++ x :: suf)
    (hpass : ∀ z ∈ pre, covers z pc = false ∨ (z.catchType ≠ 0 ∧ ∃ nm : String, (Cond.classLink own z.catchType nm).before args s = true ∧ va_Nc E nm s)) (hx : covers x pc = true) (h0 : x.catchType ≠ 0)
    (hlink : (Cond.classLink own x.catchType name).before args s = true) (hcast : (Cond.castable E name).before args s = true) (hcell : H[q]? = some ce) (hv : ce.vm = .none) (hcl : s.vm.findClass E = some ce.cls)
    (kk : W p l e R s m args below meth c H locs cells slots Q (F0 m x.handlerPc ls [.ref q])) : vx_W p l e R s m args below meth c H locs cells slots Q (F0 m pc ls rest) q := by
  intro T hT X
  have hpl : e.platform.magicAccessors = ({} : Platform).magicAccessors := by rw [X.admits.platform]
  obtain ⟨c3, c4, hc3, hc4, hasg⟩ := Cond.castable_spec hcast
  cases Option.some.inj (hc3.symm.trans hcl)
  obtain ⟨c5, hc5, hcl5⟩ := Cond.classLink_spec hown hlink e.platform hpl
  cases Option.some.inj (hc4.symm.trans hc5)
  obtain ⟨vm', X', st⟩ := X.thenCaughtThrough q (g := F0 m pc ls rest) rfl (Steps.refl _) (by rw [hT]; exact hcell) (by rw [hv]; rfl) (by obtain ⟨k9, h9, -⟩ := Vm.findClass_spec hcl; exact ⟨k9, h9⟩) pre x suf hsplit
    (fun z hz => by
      rcases hpass z hz with h | ⟨hz0, nm, hl1, hn1⟩
      · exact Or.inl h
      · obtain ⟨c6, hc6, hcl6⟩ := Cond.classLink_spec hown hl1 e.platform hpl
        obtain ⟨a8, b8, h1, h2, h3⟩ := hn1
        cases Option.some.inj (h1.symm.trans hcl)
        cases Option.some.inj (h2.symm.trans hc6)
        exact Or.inr ⟨hz0, _, hcl6, h3⟩) hx (Or.inr ⟨h0, c4, hcl5, hasg⟩)
  obtain ⟨t, a1, b1⟩ := kk (T.setVm vm') hT X'
  exact ⟨t, st.trans a1, b1⟩
end Rows
section Ends
variable {p : Program} {l : Launch} {e : Env} {R : Room} {s : State} {m : MethodId} {args : Array Value} {below : List Frame} {meth : Method} {c : Code} {H : Heap} {locs : List Loc} {cells slots : Nat} {Q : State → Prop}
variable {mc ms : Nat} {free : Addr → Prop} {A0 A1 : Nat → Prop} {H0 : Heap} {a : Array Value} {ls : Array Slot} {st0 rest : List Value}
variable {Qc : Array Value → State → Outcome → State → Prop} {XC : String → State → State → Prop}
/-- what a body that may throw owes at its end -/
def vx_MQ (below : List Frame) (Qc : Array Value → State → Outcome → State → Prop) (XC : String → State → State → Prop) (a : Array Value) (s : State) (mc ms : Nat) (free : Addr → Prop) : State → Prop := fun t =>
  ∃ o, t.status = .running ∧ Ended t below o ∧ vx_Q Qc XC mc ms free a s o t
theorem vx_ret {g : JFrame} {mc ms : Nat} (k : W p l e R s m args below meth c H locs cells slots (MQ below Qc args s mc ms free) g) : W p l e R s m args below meth c H locs cells slots (vx_MQ below Qc XC args s mc ms free) g := by
  intro T hT X
  obtain ⟨t, a1, o, b1, b2, b3, b4⟩ := k T hT X
  exact ⟨t, a1, o, b1, b2, Or.inl ⟨b3, b4⟩⟩
/-- not caught here: it goes on to the caller -/
theorem vx_widen {g : JFrame} {q : Addr} {k n : Nat} (h1 : cells ≤ k) (h2 : slots ≤ n) (kk : vx_W p l e R s m args below meth c H locs k n Q g q) : vx_W p l e R s m args below meth c H locs cells slots Q g q := fun T hT X => kk T hT (stand_widen X h1 h2)
theorem vx_out {pc : Nat} {E : String} {ce : Cell} {q : Addr} {mc ms : Nat} (hout : ∀ x ∈ c.exceptionTable.toList, covers x pc = false) (hlocks : meth.locks = false) (hcell : H[q]? = some ce) (hv : ce.vm = .none) (hcl : s.vm.findClass E = some ce.cls)
    (hx : ∀ t : State, t.heap = H → s.vm.Alike t.vm → XC E s t) (hf : ∀ z ∈ locs, free z.base) (hc : cells ≤ mc) (hs : slots ≤ ms) :
    vx_W p l e R s m args below meth c H locs cells slots (vx_MQ below Qc XC args s mc ms free) (F0 m pc ls rest) q := by
  intro T hT X
  obtain ⟨st1, hrun, hend, hW, hsm⟩ := X.leaveThrown q (g := F0 m pc ls rest) rfl rfl rfl hout hlocks
  have hcell9 : (T.setFrames (.throwing q :: below)).heap[q]? = some ce := by
    show T.heap[q]? = some ce
    rw [hT]; exact hcell
  exact ⟨_, st1, .threw q, hrun, hend, Or.inr ⟨q, rfl, E, ce, locs, hx _ hT hW.alike, hcell9, hv, hcl, hW, hsm.mono hc hs, hf⟩⟩
theorem vx_frame {U : State} {k n : Nat} (h : s.sameButNew ({ U with vm := s.vm } : State) locs k n) : s.heap.size ≤ U.heap.size ∧ ∀ q : Nat, q < s.heap.size → (∀ z ∈ locs, z.base ≠ q) → U.heap[q]? = s.heap[q]? := by
  obtain ⟨-, h2, -, -, -, h6⟩ := h
  refine ⟨h2, fun q hq hz => ?_⟩
  obtain ⟨c9, e1, e2, e3, e4⟩ := h6 q _ (Array.getElem?_eq_getElem hq)
  have hs : c9.slots = (s.heap[q]).slots := Array.ext_getElem? fun i => e4 i fun hm => hz _ hm rfl
  have h9 : c9 = s.heap[q] := by
    rw [hs] at e2
    exact e2
  have e5 : U.heap[q]? = some c9 := e1
  rw [e5, h9, Array.getElem?_eq_getElem hq]
/-- the words of a throw but the four that speak of the heap -/
def vx_no (w : Cond) : Bool := decide (w ≠ .isRef (.static Bundle.tN "UNASSIGNED_STACK" Bundle.steD)) && decide (w ≠ .isRef (.static Bundle.tN "SUPPRESSED_SENTINEL" Bundle.listD)) && decide (w ≠ .laysStatic Bundle.tN "UNASSIGNED_STACK" Bundle.steD) && decide (w ≠ .laysStatic Bundle.tN "SUPPRESSED_SENTINEL" Bundle.listD)
def vx_at0 (own : String) (ic : Nat) (X : String) (names : List String) : List Cond := (Bundle.ownAtoms0 own ic X names).filter vx_no
def vx_atS (own : String) (ic : Nat) (X : String) (names : List String) : List Cond := (Bundle.ownAtoms own ic X names).filter vx_no
/-- a word that the tables alone decide, or a good one -/
def vx_ot (w : Cond) : Bool := w.onTables || goodWord w
theorem vx_ot_at {args a' : Array Value} {s U : State} {w : Cond} (hW : s.WarmedH U.vm) (hvm : s.vm = U.vm) (hg : vx_ot w = true) (h : w.before args s = true) : w.before a' U = true := by
  simp only [vx_ot, Bool.or_eq_true] at hg
  rcases hg with hg | hg
  · exact va_tabs hg hvm h
  · exact word_at hW (good_of_word hg) h
/-- a list's words: the good ones out of the method's own list, the others by premises of their own -/
theorem vx_hat {args : Array Value} {s : State} {L B : List Cond} (h1 : ∀ w ∈ L.filter goodWord, w.before args s = true) (h2 : ∀ w ∈ L.filter (fun w => !goodWord w), w ∈ B) (h3 : ∀ w ∈ B, w.before args s = true) : ∀ w ∈ L, w.before args s = true := by
  intro w hw
  by_cases g : goodWord w = true
  · exact h1 w (List.mem_filter.mpr ⟨hw, g⟩)
  · refine h3 w (h2 w (List.mem_filter.mpr ⟨hw, ?_⟩))
    show (!goodWord w) = true
    cases hgw : goodWord w
    · rfl
    · exact absurd hgw g
theorem vx_c {args : Array Value} {s : State} {w : Cond} {B : List Cond} (h : w.before args s = true) (t : ∀ w ∈ B, w.before args s = true) : ∀ w' ∈ w :: B, w'.before args s = true := fun w' h' => (List.mem_cons.mp h').elim (fun e => by rw [e]; exact h) (t w')
theorem vx_n {args : Array Value} {s : State} : ∀ w ∈ ([] : List Cond), w.before args s = true := fun _ h => nomatch h
theorem vx_own {args : Array Value} {s : State} {L : List Cond} (h1 : ∀ w ∈ L.filter vx_no, w.before args s = true)
    (hU : (Cond.isRef (.static Bundle.tN "UNASSIGNED_STACK" Bundle.steD)).before args s = true) (hN : (Cond.isRef (.static Bundle.tN "SUPPRESSED_SENTINEL" Bundle.listD)).before args s = true)
    (lU : (Cond.laysStatic Bundle.tN "UNASSIGNED_STACK" Bundle.steD).before args s = true) (lN : (Cond.laysStatic Bundle.tN "SUPPRESSED_SENTINEL" Bundle.listD).before args s = true) : ∀ w ∈ L, w.before args s = true := by
  intro w hw
  by_cases e1 : w = .isRef (.static Bundle.tN "UNASSIGNED_STACK" Bundle.steD)
  · rw [e1]; exact hU
  · by_cases e2 : w = .isRef (.static Bundle.tN "SUPPRESSED_SENTINEL" Bundle.listD)
    · rw [e2]; exact hN
    · by_cases e3 : w = .laysStatic Bundle.tN "UNASSIGNED_STACK" Bundle.steD
      · rw [e3]; exact lU
      · by_cases e4 : w = .laysStatic Bundle.tN "SUPPRESSED_SENTINEL" Bundle.listD
        · rw [e4]; exact lN
        · exact h1 w (List.mem_filter.mpr ⟨hw, by unfold vx_no; rw [decide_eq_true e1, decide_eq_true e2, decide_eq_true e3, decide_eq_true e4]; rfl⟩)
/-- where a static field lies, its class's statics cell in H -/
def vx_L (C n d : String) (A : Nat → Prop) (U : State) (H : Heap) : Prop := ∃ (c : ClassId) (k : Class) (i : Nat) (f : Field) (a : Nat) (cell : Cell), U.vm.findClass C = some c ∧ U.fieldFound? C n d = some (c, k, i, f) ∧ f.isStatic = true ∧ k.statics = some a ∧ H[a]? = some cell ∧ cell.vm.isStatics = true ∧ cell.cls = c ∧ f.slot < cell.slots.size ∧ k.staticTypes[f.slot]? = some f.type ∧ ¬ A a
theorem vx_L.moved {C n d : String} {A : Nat → Prop} {u U : State} {H : Heap} (hvm : u.vm.Alike U.vm) (h : vx_L C n d A u H) : vx_L C n d A U H := by
  obtain ⟨c, k, i, f, a, cell, h1, h2, h3, h4, h5, h6, h7, h8, h9, h10⟩ := h
  obtain ⟨k', hi', he⟩ := State.fieldFound?_setVm hvm h2
  exact ⟨c, k', i, f, a, cell, by rw [hvm.findClass]; exact h1, hi', h3, by rw [he]; exact h4, h5, h6, h7, h8, by rw [he]; exact h9, h10⟩
theorem vx_L.kept {C n d : String} {A : Nat → Prop} {U : State} {H H1 : Heap} (h : vx_L C n d A U H) (hq : ∀ a : Nat, a < H.size → ¬ A a → H1[a]? = H[a]?) : vx_L C n d A U H1 := by
  obtain ⟨c, k, i, f, a, cell, h1, h2, h3, h4, h5, h6, h7, h8, h9, h10⟩ := h
  exact ⟨c, k, i, f, a, cell, h1, h2, h3, h4, by rw [hq a (Array.getElem?_eq_some_iff.mp h5).1 h10]; exact h5, h6, h7, h8, h9, h10⟩
theorem vx_L.narrow {C n d : String} {A B : Nat → Prop} {U : State} {H : Heap} (h : vx_L C n d A U H) (hAB : ∀ q, B q → A q) : vx_L C n d B U H := by
  obtain ⟨c, k, i, f, a, cell, h1, h2, h3, h4, h5, h6, h7, h8, h9, h10⟩ := h
  exact ⟨c, k, i, f, a, cell, h1, h2, h3, h4, h5, h6, h7, h8, h9, fun z => h10 (hAB _ z)⟩
theorem vx_L.word {C n d : String} {A : Nat → Prop} {s : State} {args : Array Value} (h : vx_L C n d A s s.heap) : (Cond.laysStatic C n d).before args s = true := by
  obtain ⟨c, k, i, f, a, cell, h1, h2, h3, h4, h5, h6, h7, h8, h9, -⟩ := h
  show (Cond.laysStatic C n d).holds args s none s [] = true
  exact Cond.laysStatic_of h1 h2 h3 h4 h5 h6 h7 h8 h9
/-- .. and what it holds: null or some reference -/
def vx_Zq (C n d : String) (A : Nat → Prop) (U : State) (H : Heap) : Prop := va_Zq C n d A U H ∧ vx_L C n d A U H
theorem vx_Zq.moved {C n d : String} {A : Nat → Prop} {u U : State} {H : Heap} (hvm : u.vm.Alike U.vm) (h : vx_Zq C n d A u H) : vx_Zq C n d A U H := ⟨va_Zq.moved hvm h.1, vx_L.moved hvm h.2⟩
theorem vx_Zq.kept {C n d : String} {A : Nat → Prop} {U : State} {H H1 : Heap} (h : vx_Zq C n d A U H) (hq : ∀ a : Nat, a < H.size → ¬ A a → H1[a]? = H[a]?) : vx_Zq C n d A U H1 := ⟨va_Zq.kept h.1 hq, vx_L.kept h.2 hq⟩
theorem vx_Zq.narrow {C n d : String} {A B : Nat → Prop} {U : State} {H : Heap} (h : vx_Zq C n d A U H) (hAB : ∀ q, B q → A q) : vx_Zq C n d B U H := ⟨va_Zq.narrow h.1 hAB, vx_L.narrow h.2 hAB⟩
theorem vx_Zqof {args : Array Value} {s : State} {C n d : String} {A : Nat → Prop} (hl : (Cond.laysStatic C n d).before args s = true) (hini : (Cond.initialized C).before args s = true) (h : (Cond.isRef (.static C n d)).before args s = true) (hA : ∀ a : Nat, a < s.heap.size → ¬ A a) : vx_Zq C n d A s s.heap := by
  refine ⟨va_Zqof hl hini h hA, ?_⟩
  obtain ⟨c, k, i, f, a, cell, h1, h2, h3, h4, h5, h6, h7, h8, h9⟩ := Cond.laysStatic_spec hl
  exact ⟨c, k, i, f, a, cell, h1, h2, h3, h4, h5, h6, h7, h8, h9, hA a (Array.getElem?_eq_some_iff.mp h5).1⟩
theorem vx_isRef {C n d : String} {v : Value} {A : Nat → Prop} {s : State} {args : Array Value} (h : va_Z C n d v A s s.heap) (hv : v.isRef = true) : (Cond.isRef (.static C n d)).before args s = true := by
  obtain ⟨cf, kf, fi, f, a, cell, h1, h2, h3, h4, h5, h6, h7, -⟩ := h
  have he : (Term.static C n d).eval args s none [] s = some v := by
    simp [Term.eval, State.fieldNamed?, h1, h2, h4, h5, h6, h7]
  simp only [Cond.before, Cond.holds, Cond.value, he]
  cases v <;> simp_all [Value.isRef]
theorem vx_isRefq {C n d : String} {A : Nat → Prop} {s : State} {args : Array Value} (h : va_Zq C n d A s s.heap) : (Cond.isRef (.static C n d)).before args s = true := by
  rcases h with h | ⟨t, h⟩
  · exact vx_isRef h rfl
  · exact vx_isRef h rfl
/-- the same frame, seen from here: as if the method were called anew in this heap -/
theorem vx_rebase {T : State} (X : Stand p l e R s m args below meth c T locs cells slots) {R' : Room} (hf : R'.frames ≤ R.frames) (hl : R'.locals ≤ R.locals) (hc : cells + R'.cells ≤ R.cells) (hs : slots + R'.slots ≤ R.slots) :
    Stand p l e R' ((T.setVm s.vm).setFrames (.invoking m args :: below)) m args below meth c T [] 0 0 := by
  have htop : (T.setVm s.vm).topJava?.isSome := X.here.top
  have hF : ((T.setVm s.vm).setFrames (.invoking m args :: below)).frames = .invoking m args :: below := State.frames_setFrames _ (State.cur_lt_of_top htop)
  obtain ⟨g₀, hg0⟩ := Option.isSome_iff_exists.mp htop
  obtain ⟨r, hr⟩ := State.topJava?_eq_some.mp hg0
  have hl9 : e.platform.stackLimits (T.setVm s.vm).me = e.platform.stackLimits s.me := X.limits
  have hb9 : (T.setVm s.vm).me.stackBytes = s.me.stackBytes := X.bytes
  refine ⟨X.admits, X.cas, X.clock, hF, ?_, X.hears, X.method, X.code, X.here, X.tail, X.warmed, ?_, ?_, ?_⟩
  · have h := X.room
    have hU : ((T.setVm s.vm).setFrames (.invoking m args :: below)).localsInUse = s.localsInUse := by
      rw [State.localsInUse_invoking hF (meth := meth) (c := c) X.method X.code, State.localsInUse_invoking X.frames X.method X.code]
    simp only [State.hasRoom, Bool.and_eq_true, decide_eq_true_eq] at h ⊢
    obtain ⟨⟨⟨⟨h1, h2, h3, h4, h5, h6⟩, h7⟩, h8⟩, h9⟩ := h
    rw [X.frames, List.length_cons] at h2 h3
    have q1 := X.heapSize
    have q2 := X.used
    simp only [hF, hU, List.length_cons, State.stackLimits_setFrames, State.stackBytes_setFrames, hl9, hb9]
    refine ⟨⟨⟨⟨by omega, by omega, by omega, by omega, by omega, h6⟩, ?_⟩, ?_⟩, X.book⟩
    · show T.heap.size + R'.cells ≤ e.platform.maxCells
      omega
    · show T.slotsUsed + R'.slots ≤ e.platform.maxSlots
      omega
  · rw [State.stackLimits_setFrames]; rfl
  · rw [State.stackBytes_setFrames]; rfl
  · refine ⟨?_, Nat.le_refl _, Nat.le_refl _, ?_, ?_, fun a c9 h9 => ⟨c9, h9, rfl, rfl, fun _ _ => rfl⟩⟩
    · obtain ⟨t, ht, -⟩ := State.frames_cons hr
      show T.setVm s.vm = { ((T.setVm s.vm).setFrames (.invoking m args :: below)).setFrames (T.setVm s.vm).frames with heap := T.heap, slotsUsed := T.slotsUsed }
      rw [State.setFrames_setFrames, State.setFrames_self ht]
      rfl
    · show T.slotsUsed = T.slotsUsed + ((T.heap.toList.drop T.heap.size).map (·.slots.size)).sum
      rw [List.drop_eq_nil_of_le (Nat.le_of_eq Array.length_toList)]
      rfl
    · show ((T.heap.toList.drop T.heap.size).map (·.slots.size)).sum ≤ 0
      rw [List.drop_eq_nil_of_le (Nat.le_of_eq Array.length_toList)]
      exact Nat.le_refl _
/-- 'throw new E()': new; dup; invokespecial; athrow -/
theorem vx_throw0 {cc : ByteArray} {pc : Nat} (hexec : p.tables.exec = Jvm.exec) (hb : c.code = cc) (hl : l.stackTraces = false) {own cls : String} {names : List String} {ik ic mc ms : Nat} {A : Nat → Prop}
    (hown : s.vm.findClass own = some m.cls) (hcls : Bundle.fit cls = true) (hnames : ∀ n ∈ names, Bundle.fit n = true)
    (hk : (Cond.classLink own ik cls).before args s = true) (hini : (Cond.initialized cls).before args s = true) (hat : ∀ w ∈ vx_at0 own ic cls names, w.before args s = true)
    (hgood : ∀ w ∈ Cond.classLink own ik cls :: Cond.initialized cls :: vx_at0 own ic cls names, vx_ot w = true)
    (hU : vx_Zq Bundle.tN "UNASSIGNED_STACK" Bundle.steD A s s.heap) (hN : vx_Zq Bundle.tN "SUPPRESSED_SENTINEL" Bundle.listD A s s.heap) (hS : va_S A s.heap H locs) (hsize : ls.size = c.maxLocals)
    (d0 : decode cc pc = .ok (.new ik, 3)) (d3 : decode cc (pc + 3) = .ok (.dup, 1)) (d4 : decode cc (pc + 4) = .ok (.invokespecial ic, 3)) (d7 : decode cc (pc + 7) = .ok (.athrow, 1))
    (hout : ∀ x ∈ c.exceptionTable.toList, covers x (pc + 7) = false)
    (hRframes : names.length + 3 < R.frames) (hRlocals : (rest.map fun v => v.category).sum + (13 * (names.length + 1) + 42) ≤ R.locals) (hRcells : cells + 1 ≤ R.cells) (hRslots : slots + 6 ≤ R.slots) (hlocks : meth.locks = false)
    (hx : ∀ t : State, s.vm.Alike t.vm → H.size ≤ t.heap.size → (∀ q : Nat, q < H.size → t.heap[q]? = H[q]?) → XC cls s t)
    (hf : ∀ z ∈ locs, free z.base) (hc : cells + 1 ≤ mc) (hs : slots + 6 ≤ ms) :
    W p l e R s m args below meth c H locs cells slots (vx_MQ below Qc XC args s mc ms free) (F0 m pc ls rest) := by
  intro T hT X
  have htr : e.platform.stackTraces = false := (show e.platform.stackTraces = l.stackTraces by rw [X.admits.platform]).trans hl
  have Y := vx_rebase X (R' := { frames := R.frames, locals := R.locals, cells := 1, slots := 6 }) (Nat.le_refl _) (Nat.le_refl _) hRcells hRslots
  obtain ⟨s', hA⟩ : ∃ z, z = (T.setVm s.vm).setFrames (.invoking m args :: below) := ⟨_, rfl⟩
  rw [← hA] at Y
  have hvm : s'.vm = s.vm := by rw [hA]; rfl
  have hhp : s'.heap = H := by rw [hA]; exact hT
  have hW0 : s.WarmedH s'.vm := by rw [hvm]; exact State.WarmedH.refl s
  have hat' : ∀ w ∈ vx_at0 own ic cls names, w.before args s' = true := fun w hw => vx_ot_at hW0 hvm.symm (hgood w (List.mem_cons_of_mem _ (List.mem_cons_of_mem _ hw))) (hat w hw)
  have hk' : (Cond.classLink own ik cls).before args s' = true := vx_ot_at hW0 hvm.symm (hgood _ List.mem_cons_self) hk
  have hini' : (Cond.initialized cls).before args s' = true := vx_ot_at hW0 hvm.symm (hgood _ (List.mem_cons_of_mem _ List.mem_cons_self)) hini
  have hU' : vx_Zq Bundle.tN "UNASSIGNED_STACK" Bundle.steD A s' s'.heap := by rw [hhp]; exact vx_Zq.moved hW0.alike (hU.kept hS.2.1)
  have hN' : vx_Zq Bundle.tN "SUPPRESSED_SENTINEL" Bundle.listD A s' s'.heap := by rw [hhp]; exact vx_Zq.moved hW0.alike (hN.kept hS.2.1)
  have h : ∀ w ∈ Bundle.ownAtoms0 own ic cls names, w.before args s' = true := vx_own hat' (vx_isRefq hU'.1) (vx_isRefq hN'.1) hU'.2.word hN'.2.word
  have hown' : s'.vm.findClass own = some m.cls := by rw [hvm]; exact hown
  have hins : (Cond.instantiable cls 6).before args s' = true := h _ (by simp [Bundle.ownAtoms0])
  obtain ⟨vm₁, cX, kX, hfX, hkX, -, -, X₁, st1⟩ := Y.newCold hexec (own := own) (C := cls) (index := ik) (n := 6) hown' hk' hins hini'
    (g := F0 m pc ls rest) rfl (by rw [hb]; exact d0) (Nat.le_refl _) (Nat.le_refl _)
  generalize hT1 : (T.setVm vm₁).pushCell { cls := cX, slots := kX.instanceTypes.map defaultValue, vm := .none } = T1 at X₁ st1
  have hcat : (Value.ref T.heap.size).category = 1 := rfl
  have hcellA : T1.heap[T.heap.size]? = some (freshCell cX kX) := by rw [← hT1]; exact State.heap_pushCell_size _ _
  have d3' : decode c.code (pc + 3) = .ok (.dup, 1) := by rw [hb]; exact d3
  obtain ⟨U, hsteps, hrun, hend, hW, hsame, ce, hce, hO⟩ := X₁.ctorThrow0 hexec htr (own := own) (cls := cls) (names := names) (ic := ic) hown' hcls hnames h (fun x hx => nomatch hx) hfX hkX hcellA (by rw [hhp, hT]; exact Nat.le_refl _)
    (g := { method := m, pc := pc + 4, locals := ls, stack := .ref T.heap.size :: .ref T.heap.size :: rest, locked := none }) rfl hsize rfl rfl (rest := rest) rfl
    (by rw [hb]; exact d4) (by rw [hb]; exact d7) hout hRframes (by simp only [List.map_cons, List.sum_cons, hcat]; omega) hlocks
  obtain ⟨f1, f2⟩ := vx_frame hsame
  rw [hhp] at f1 f2
  have hWs : s.WarmedH U.vm := State.WarmedH.trans hW0 hW
  have hcl : s.vm.findClass cls = some ce.cls := by
    have h9 := hO.cls
    rw [hvm] at h9
    exact h9
  have hall : s.sameButNew ({ U with vm := s.vm } : State) locs mc ms := by
    subst hA
    obtain ⟨e1, e2⟩ := hsame
    rw [State.setFrames_setFrames] at e1
    have h2 : (T.setVm s.vm).sameButNew ({ U with vm := s.vm } : State) [] (0 + 1) (0 + 6) := ⟨e1, e2⟩
    have h3 := X.same.trans h2
    rw [List.append_nil] at h3
    exact h3.mono hc hs
  refine ⟨U, ?_, .threw T.heap.size, hrun, hend, Or.inr ⟨T.heap.size, rfl, cls, ce, locs, hx U hWs.alike f1 (fun q hq => f2 q hq (fun z hz => nomatch hz)), hce, hO.vm, hcl, hWs, hall, hf⟩⟩
  refine st1 _ ?_
  show Steps p.tables e below (T1.setTop { method := m, pc := pc + 3, locals := ls, stack := .ref T.heap.size :: rest, locked := none }) _
  jvm_step X₁.here [X₁.here.top, hexec, d3', Value.category]
  exact hsteps
/-- 'throw new E("text")': new; dup; ldc; invokespecial; athrow -/
theorem vx_throwS {cc : ByteArray} {pc : Nat} (hexec : p.tables.exec = Jvm.exec) (hb : c.code = cc) (hl : l.stackTraces = false) {own cls text : String} {names : List String} {ik is ic mc ms sa : Nat} {A : Nat → Prop}
    (hown : s.vm.findClass own = some m.cls) (hcls : Bundle.fit cls = true) (hnames : ∀ n ∈ names, Bundle.fit n = true)
    (hk : (Cond.classLink own ik cls).before args s = true) (hini : (Cond.initialized cls).before args s = true) (hstr : vk_R own is text sa s) (hat : ∀ w ∈ vx_atS own ic cls names, w.before args s = true)
    (hgood : ∀ w ∈ Cond.classLink own ik cls :: Cond.initialized cls :: vx_atS own ic cls names, vx_ot w = true)
    (hU : vx_Zq Bundle.tN "UNASSIGNED_STACK" Bundle.steD A s s.heap) (hN : vx_Zq Bundle.tN "SUPPRESSED_SENTINEL" Bundle.listD A s s.heap) (hS : va_S A s.heap H locs) (hsize : ls.size = c.maxLocals)
    (d0 : decode cc pc = .ok (.new ik, 3)) (d3 : decode cc (pc + 3) = .ok (.dup, 1)) (d4 : decode cc (pc + 4) = .ok (.ldc is, 2)) (d6 : decode cc (pc + 6) = .ok (.invokespecial ic, 3)) (d9 : decode cc (pc + 9) = .ok (.athrow, 1))
    (hout : ∀ x ∈ c.exceptionTable.toList, covers x (pc + 9) = false)
    (hRframes : names.length + 3 < R.frames) (hRlocals : (rest.map fun v => v.category).sum + (13 * (names.length + 1) + 43) ≤ R.locals) (hRcells : cells + 1 ≤ R.cells) (hRslots : slots + 6 ≤ R.slots) (hlocks : meth.locks = false)
    (hx : ∀ t : State, s.vm.Alike t.vm → H.size ≤ t.heap.size → (∀ q : Nat, q < H.size → t.heap[q]? = H[q]?) → XC cls s t)
    (hf : ∀ z ∈ locs, free z.base) (hc : cells + 1 ≤ mc) (hs : slots + 6 ≤ ms) :
    W p l e R s m args below meth c H locs cells slots (vx_MQ below Qc XC args s mc ms free) (F0 m pc ls rest) := by
  intro T hT X
  have htr : e.platform.stackTraces = false := (show e.platform.stackTraces = l.stackTraces by rw [X.admits.platform]).trans hl
  have Y := vx_rebase X (R' := { frames := R.frames, locals := R.locals, cells := 1, slots := 6 }) (Nat.le_refl _) (Nat.le_refl _) hRcells hRslots
  obtain ⟨s', hA⟩ : ∃ z, z = (T.setVm s.vm).setFrames (.invoking m args :: below) := ⟨_, rfl⟩
  rw [← hA] at Y
  have hvm : s'.vm = s.vm := by rw [hA]; rfl
  have hhp : s'.heap = H := by rw [hA]; exact hT
  have hW0 : s.WarmedH s'.vm := by rw [hvm]; exact State.WarmedH.refl s
  have hat' : ∀ w ∈ vx_atS own ic cls names, w.before args s' = true := fun w hw => vx_ot_at hW0 hvm.symm (hgood w (List.mem_cons_of_mem _ (List.mem_cons_of_mem _ hw))) (hat w hw)
  have hk' : (Cond.classLink own ik cls).before args s' = true := vx_ot_at hW0 hvm.symm (hgood _ List.mem_cons_self) hk
  have hini' : (Cond.initialized cls).before args s' = true := vx_ot_at hW0 hvm.symm (hgood _ (List.mem_cons_of_mem _ List.mem_cons_self)) hini
  have hU' : vx_Zq Bundle.tN "UNASSIGNED_STACK" Bundle.steD A s' s'.heap := by rw [hhp]; exact vx_Zq.moved hW0.alike (hU.kept hS.2.1)
  have hN' : vx_Zq Bundle.tN "SUPPRESSED_SENTINEL" Bundle.listD A s' s'.heap := by rw [hhp]; exact vx_Zq.moved hW0.alike (hN.kept hS.2.1)
  have h : ∀ w ∈ Bundle.ownAtoms own ic cls names, w.before args s' = true := vx_own hat' (vx_isRefq hU'.1) (vx_isRefq hN'.1) hU'.2.word hN'.2.word
  have hown' : s'.vm.findClass own = some m.cls := by rw [hvm]; exact hown
  have hins : (Cond.instantiable cls 6).before args s' = true := h _ (by simp [Bundle.ownAtoms])
  obtain ⟨vm₁, cX, kX, hfX, hkX, -, -, X₁, st1⟩ := Y.newCold hexec (own := own) (C := cls) (index := ik) (n := 6) hown' hk' hins hini'
    (g := F0 m pc ls rest) rfl (by rw [hb]; exact d0) (Nat.le_refl _) (Nat.le_refl _)
  generalize hT1 : (T.setVm vm₁).pushCell { cls := cX, slots := kX.instanceTypes.map defaultValue, vm := .none } = T1 at X₁ st1
  have hcat : (Value.ref T.heap.size).category = 1 := rfl
  have hcellA : T1.heap[T.heap.size]? = some (freshCell cX kX) := by rw [← hT1]; exact State.heap_pushCell_size _ _
  have d3' : decode c.code (pc + 3) = .ok (.dup, 1) := by rw [hb]; exact d3
  have d4' : decode c.code (pc + 4) = .ok (.ldc is, 2) := by rw [hb]; exact d4
  have hstr' : vk_R own is text sa s' := vk_R.warm hW0 hstr
  obtain ⟨U, hsteps, hrun, hend, hW, hsame, ce, hce, hO⟩ := X₁.ctorThrowS hexec htr (own := own) (cls := cls) (names := names) (ic := ic) hown' hcls hnames h (fun x hx => nomatch hx) hfX hkX hcellA (by rw [hhp, hT]; exact Nat.le_refl _) (msg := .ref sa) rfl
    (g := { method := m, pc := pc + 6, locals := ls, stack := .ref sa :: .ref T.heap.size :: .ref T.heap.size :: rest, locked := none }) rfl hsize rfl rfl (rest := rest) rfl
    (by rw [hb]; exact d6) (by rw [hb]; exact d9) hout hRframes (by simp only [List.map_cons, List.sum_cons, hcat]; omega) hlocks
  obtain ⟨f1, f2⟩ := vx_frame hsame
  rw [hhp] at f1 f2
  have hWs : s.WarmedH U.vm := State.WarmedH.trans hW0 hW
  have hcl : s.vm.findClass cls = some ce.cls := by
    have h9 := hO.cls
    rw [hvm] at h9
    exact h9
  have hall : s.sameButNew ({ U with vm := s.vm } : State) locs mc ms := by
    subst hA
    obtain ⟨e1, e2⟩ := hsame
    rw [State.setFrames_setFrames] at e1
    have h2 : (T.setVm s.vm).sameButNew ({ U with vm := s.vm } : State) [] (0 + 1) (0 + 6) := ⟨e1, e2⟩
    have h3 := X.same.trans h2
    rw [List.append_nil] at h3
    exact h3.mono hc hs
  refine ⟨U, ?_, .threw T.heap.size, hrun, hend, Or.inr ⟨T.heap.size, rfl, cls, ce, locs, hx U hWs.alike f1 (fun q hq => f2 q hq (fun z hz => nomatch hz)), hce, hO.vm, hcl, hWs, hall, hf⟩⟩
  refine st1 _ ?_
  show Steps p.tables e below (T1.setTop { method := m, pc := pc + 3, locals := ls, stack := .ref T.heap.size :: rest, locked := none }) _
  jvm_step X₁.here [X₁.here.top, hexec, d3', Value.category]
  exact X₁.ldcString hexec (own := own) (text := text) (index := is) (a := sa) hown' hstr'.1 hstr'.2
    (g := { method := m, pc := pc + 4, locals := ls, stack := .ref T.heap.size :: .ref T.heap.size :: rest, locked := none }) rfl d4' _ hsteps
/-- 'throw new E("text")', the text by a wide index -/
theorem vx_throwSW {cc : ByteArray} {pc : Nat} (hexec : p.tables.exec = Jvm.exec) (hb : c.code = cc) (hl : l.stackTraces = false) {own cls text : String} {names : List String} {ik is ic mc ms sa : Nat} {A : Nat → Prop}
    (hown : s.vm.findClass own = some m.cls) (hcls : Bundle.fit cls = true) (hnames : ∀ n ∈ names, Bundle.fit n = true)
    (hk : (Cond.classLink own ik cls).before args s = true) (hini : (Cond.initialized cls).before args s = true) (hstr : vk_R own is text sa s) (hat : ∀ w ∈ vx_atS own ic cls names, w.before args s = true)
    (hgood : ∀ w ∈ Cond.classLink own ik cls :: Cond.initialized cls :: vx_atS own ic cls names, vx_ot w = true)
    (hU : vx_Zq Bundle.tN "UNASSIGNED_STACK" Bundle.steD A s s.heap) (hN : vx_Zq Bundle.tN "SUPPRESSED_SENTINEL" Bundle.listD A s s.heap) (hS : va_S A s.heap H locs) (hsize : ls.size = c.maxLocals)
    (d0 : decode cc pc = .ok (.new ik, 3)) (d3 : decode cc (pc + 3) = .ok (.dup, 1)) (d4 : decode cc (pc + 4) = .ok (.ldc_w is, 3)) (d7 : decode cc (pc + 7) = .ok (.invokespecial ic, 3)) (d10 : decode cc (pc + 10) = .ok (.athrow, 1))
    (hout : ∀ x ∈ c.exceptionTable.toList, covers x (pc + 10) = false)
    (hRframes : names.length + 3 < R.frames) (hRlocals : (rest.map fun v => v.category).sum + (13 * (names.length + 1) + 43) ≤ R.locals) (hRcells : cells + 1 ≤ R.cells) (hRslots : slots + 6 ≤ R.slots) (hlocks : meth.locks = false)
    (hx : ∀ t : State, s.vm.Alike t.vm → H.size ≤ t.heap.size → (∀ q : Nat, q < H.size → t.heap[q]? = H[q]?) → XC cls s t)
    (hf : ∀ z ∈ locs, free z.base) (hc : cells + 1 ≤ mc) (hs : slots + 6 ≤ ms) :
    W p l e R s m args below meth c H locs cells slots (vx_MQ below Qc XC args s mc ms free) (F0 m pc ls rest) := by
  intro T hT X
  have htr : e.platform.stackTraces = false := (show e.platform.stackTraces = l.stackTraces by rw [X.admits.platform]).trans hl
  have Y := vx_rebase X (R' := { frames := R.frames, locals := R.locals, cells := 1, slots := 6 }) (Nat.le_refl _) (Nat.le_refl _) hRcells hRslots
  obtain ⟨s', hA⟩ : ∃ z, z = (T.setVm s.vm).setFrames (.invoking m args :: below) := ⟨_, rfl⟩
  rw [← hA] at Y
  have hvm : s'.vm = s.vm := by rw [hA]; rfl
  have hhp : s'.heap = H := by rw [hA]; exact hT
  have hW0 : s.WarmedH s'.vm := by rw [hvm]; exact State.WarmedH.refl s
  have hat' : ∀ w ∈ vx_atS own ic cls names, w.before args s' = true := fun w hw => vx_ot_at hW0 hvm.symm (hgood w (List.mem_cons_of_mem _ (List.mem_cons_of_mem _ hw))) (hat w hw)
  have hk' : (Cond.classLink own ik cls).before args s' = true := vx_ot_at hW0 hvm.symm (hgood _ List.mem_cons_self) hk
  have hini' : (Cond.initialized cls).before args s' = true := vx_ot_at hW0 hvm.symm (hgood _ (List.mem_cons_of_mem _ List.mem_cons_self)) hini
  have hU' : vx_Zq Bundle.tN "UNASSIGNED_STACK" Bundle.steD A s' s'.heap := by rw [hhp]; exact vx_Zq.moved hW0.alike (hU.kept hS.2.1)
  have hN' : vx_Zq Bundle.tN "SUPPRESSED_SENTINEL" Bundle.listD A s' s'.heap := by rw [hhp]; exact vx_Zq.moved hW0.alike (hN.kept hS.2.1)
  have h : ∀ w ∈ Bundle.ownAtoms own ic cls names, w.before args s' = true := vx_own hat' (vx_isRefq hU'.1) (vx_isRefq hN'.1) hU'.2.word hN'.2.word
  have hown' : s'.vm.findClass own = some m.cls := by rw [hvm]; exact hown
  have hins : (Cond.instantiable cls 6).before args s' = true := h _ (by simp [Bundle.ownAtoms])
  obtain ⟨vm₁, cX, kX, hfX, hkX, -, -, X₁, st1⟩ := Y.newCold hexec (own := own) (C := cls) (index := ik) (n := 6) hown' hk' hins hini'
    (g := F0 m pc ls rest) rfl (by rw [hb]; exact d0) (Nat.le_refl _) (Nat.le_refl _)
  generalize hT1 : (T.setVm vm₁).pushCell { cls := cX, slots := kX.instanceTypes.map defaultValue, vm := .none } = T1 at X₁ st1
  have hcat : (Value.ref T.heap.size).category = 1 := rfl
  have hcellA : T1.heap[T.heap.size]? = some (freshCell cX kX) := by rw [← hT1]; exact State.heap_pushCell_size _ _
  have d3' : decode c.code (pc + 3) = .ok (.dup, 1) := by rw [hb]; exact d3
  have d4' : decode c.code (pc + 4) = .ok (.ldc_w is, 3) := by rw [hb]; exact d4
  have hstr' : vk_R own is text sa s' := vk_R.warm hW0 hstr
  obtain ⟨U, hsteps, hrun, hend, hW, hsame, ce, hce, hO⟩ := X₁.ctorThrowS hexec htr (own := own) (cls := cls) (names := names) (ic := ic) hown' hcls hnames h (fun x hx => nomatch hx) hfX hkX hcellA (by rw [hhp, hT]; exact Nat.le_refl _) (msg := .ref sa) rfl
    (g := { method := m, pc := pc + 7, locals := ls, stack := .ref sa :: .ref T.heap.size :: .ref T.heap.size :: rest, locked := none }) rfl hsize rfl rfl (rest := rest) rfl
    (by rw [hb]; exact d7) (by rw [hb]; exact d10) hout hRframes (by simp only [List.map_cons, List.sum_cons, hcat]; omega) hlocks
  obtain ⟨f1, f2⟩ := vx_frame hsame
  rw [hhp] at f1 f2
  have hWs : s.WarmedH U.vm := State.WarmedH.trans hW0 hW
  have hcl : s.vm.findClass cls = some ce.cls := by
    have h9 := hO.cls
    rw [hvm] at h9
    exact h9
  have hall : s.sameButNew ({ U with vm := s.vm } : State) locs mc ms := by
    subst hA
    obtain ⟨e1, e2⟩ := hsame
    rw [State.setFrames_setFrames] at e1
    have h2 : (T.setVm s.vm).sameButNew ({ U with vm := s.vm } : State) [] (0 + 1) (0 + 6) := ⟨e1, e2⟩
    have h3 := X.same.trans h2
    rw [List.append_nil] at h3
    exact h3.mono hc hs
  refine ⟨U, ?_, .threw T.heap.size, hrun, hend, Or.inr ⟨T.heap.size, rfl, cls, ce, locs, hx U hWs.alike f1 (fun q hq => f2 q hq (fun z hz => nomatch hz)), hce, hO.vm, hcl, hWs, hall, hf⟩⟩
  refine st1 _ ?_
  show Steps p.tables e below (T1.setTop { method := m, pc := pc + 3, locals := ls, stack := .ref T.heap.size :: rest, locked := none }) _
  jvm_step X₁.here [X₁.here.top, hexec, d3', Value.category]
  exact X₁.ldcStringW hexec (own := own) (text := text) (index := is) (a := sa) hown' hstr'.1 hstr'.2
    (g := { method := m, pc := pc + 4, locals := ls, stack := .ref T.heap.size :: .ref T.heap.size :: rest, locked := none }) rfl d4' _ hsteps
end Ends
section Bodies
variable {l : Launch}
theorem vx_ofW {y : MethodName} {ws ws' : List Cond} {rm : Room} {Pc : Array Value → State → Prop} {Qc : Array Value → State → Outcome → State → Prop} {XC : String → State → State → Prop} {mc ms : Nat} {free : Addr → Prop} {cc : ByteArray} {maxL : Nat} {ret : Option FieldType}
    (hy : plainName y.cls = true) (hw : ws = Cond.code y cc maxL ret :: ws')
    (body : ∀ p e s m args below meth c s₁, BodyLoose p l y (headSpec ws rm) cc maxL ret e s m args below meth c s₁ → c.maxLocals = maxL → (∀ x ∈ c.exceptionTable.toList, False) → Pc args s →
      W p l e (headSpec ws rm).room s m args below meth c s.heap [] 0 0 (vx_MQ below Qc XC args s mc ms free) (entryFrame m args maxL)) : vx_Met l y ws rm Pc Qc XC mc ms free := by
  refine MetFree.of_bodyS (code := cc) (maxLocals := maxL) (ret := ret) hy ?_ ?_
  · intro args s m h hn
    obtain ⟨meth, c, h1, h2, h3, h4, h5, h6, -, -⟩ := Cond.code_spec hn (atoms_spec (ws := ws) h _ (by rw [hw]; exact List.mem_cons_self))
    exact ⟨meth, c, h1, h2, h3, h4, h5, h6⟩
  · intro p e s m args below meth c s₁ B hml hP _
    have hh0 : s₁.heap = s.heap := by rw [B.state]; rfl
    have ht : ∀ x ∈ c.exceptionTable.toList, False := by
      obtain ⟨meth9, c9, h1, h2, -, -, -, -, h7, -⟩ := Cond.code_spec B.named (atoms_spec (ws := ws) B.pre _ (by rw [hw]; exact List.mem_cons_self))
      cases Option.some.inj (h1.symm.trans B.method)
      cases Option.some.inj (h2.symm.trans (Stand.of_body B).code)
      intro x hx
      rw [Array.isEmpty_iff.mp h7] at hx
      cases hx
    obtain ⟨t, a1, o, b1, b2, b3⟩ := body p e s m args below meth c s₁ B hml ht hP s₁ hh0 (Stand.of_body B)
    exact ⟨t, o, a1, b1, b2, b3⟩
/-- the table of a body with handlers -/
theorem vx_table {p : Program} {x y : MethodName} {S : Spec} {cc bytes : ByteArray} {maxL maxL' : Nat} {ret ret' : Option FieldType} {e : Env} {s s₁ : State} {m : MethodId} {args : Array Value} {below : List Frame} {meth : Method} {c : Code} {hh : List (Nat × Nat × Nat × Nat)}
    (B : BodyLoose p l y S cc maxL ret e s m args below meth c s₁) (h : (Cond.codeWith y bytes maxL' ret' hh).before args s = true) : c.exceptionTable.toList = tableOf hh := by
  obtain ⟨m9, meth9, c9, hn9, h1, h2, -, -, h6, -⟩ := Cond.codeWith_spec h
  cases Option.some.inj (hn9.symm.trans B.named)
  cases Option.some.inj (h1.symm.trans B.method)
  cases Option.some.inj (h2.symm.trans (Stand.of_body B).code)
  rw [← h6, table_eq]
end Bodies
end VXA
/-! ===== END ===== -/
/-! ===== BEGIN a static call of a method with an exception table ===== -/
section VXS
variable {p : Program} {l : Launch} {e : Env} {R : Room} {s : State} {m : MethodId} {args : Array Value} {below : List Frame} {meth : Method} {c : Code} {T : State} {H : Heap} {locs : List Loc} {cells slots : Nat}
abbrev vx_CSW (R : Room) (s : State) (args : Array Value) (own : String) (index : Nat) (y : MethodName) (bytes : ByteArray) (maxL : Nat) (ret : Option FieldType) (hh : List (Nat × Nat × Nat × Nat)) (ws : List Cond) (rm : Room) (mc ms n : Nat) : Prop :=
  (rm.cells = mc ∧ rm.slots = ms ∧ rm.frames + 1 ≤ R.frames ∧ 8 + (maxL + 11) + rm.locals ≤ R.locals ∧ (∀ w ∈ ws, ∀ (a' : Array Value) (U : State), s.WarmedH U.vm → w.before a' U = true) ∧ Cond.codeWith y bytes maxL ret hh ∈ ws) ∧
  (Cond.codeWith y bytes maxL ret hh).before args s = true ∧ (Cond.initialized y.cls).before args s = true ∧ (y.cls ≠ "java/lang/invoke/MethodHandle" ∧ y.cls ≠ "java/lang/invoke/VarHandle") ∧
  (∀ sig, parseMethodDescriptor y.desc = some sig → n = sig.parameters.length) ∧ (Cond.methodLink own index y).before args s = true ∧ (Cond.static y).before args s = true
theorem vx_cwSW {own : String} {index maxL mc ms : Nat} {y : MethodName} {bytes : ByteArray} {ret : Option FieldType} {hh : List (Nat × Nat × Nat × Nat)} {Ts ws ws' : List Cond} {rm : Room} (n : Nat) (ht : ∀ w ∈ Ts, w.before args s = true) (hT : GoodIn Ts (va_wsS own index y ws)) (hw : ws = Cond.codeWith y bytes maxL ret hh :: ws') (hrc : rm.cells = mc) (hrs : rm.slots = ms)
    (hd : y.cls ≠ "java/lang/invoke/MethodHandle" ∧ y.cls ≠ "java/lang/invoke/VarHandle" ∧ (parseMethodDescriptor y.desc).map (fun d => d.parameters.length) = some n) (hR : rm.frames + 1 ≤ R.frames ∧ 8 + (maxL + 11) + rm.locals ≤ R.locals) :
    vx_CSW R s args own index y bytes maxL ret hh ws rm mc ms n := by
  have ok : ∀ w ∈ va_wsS own index y ws, w.before args s = true := fun w h => ht w (hT w h).1
  have hG : GoodIn Ts ws := fun w h => hT w (by unfold va_wsS; exact List.mem_append_right _ h)
  have hc : Cond.codeWith y bytes maxL ret hh ∈ ws := by rw [hw]; exact List.mem_cons_self
  refine ⟨⟨hrc, hrs, hR.1, hR.2, pay_in ht hG, hc⟩, ht _ (hG _ hc).1, ok _ (by simp [va_wsS]), ⟨hd.1, hd.2.1⟩, fun sig h => ?_, ok _ (by simp [va_wsS]), ok _ (by simp [va_wsS])⟩
  have h2 := hd.2.2
  rw [h] at h2
  exact (Option.some.inj h2).symm
theorem vx_callSW (X : Stand p l e R s m args below meth c T locs cells slots) (hexec : p.tables.exec = Jvm.exec) {own : String} {index : Nat} {y : MethodName} {bytes : ByteArray} {maxL : Nat} {ret : Option FieldType} {hh : List (Nat × Nat × Nat × Nat)}
    (hown : s.vm.findClass own = some m.cls) (hlink : (Cond.methodLink own index y).before args s = true) (hstat : (Cond.static y).before args s = true) (hinit : (Cond.initialized y.cls).before args s = true)
    (hcode : (Cond.codeWith y bytes maxL ret hh).before args s = true) (hy : y.cls ≠ "java/lang/invoke/MethodHandle" ∧ y.cls ≠ "java/lang/invoke/VarHandle")
    {W9 : Nat} {Pre : Pt → Array Value → Prop} {Post : Pt → Array Value → Option Value → Pt → Prop} (hK : Back l R p e below s args y 3 W9 Pre Post)
    {g : JFrame} (hg : g.method = m) (hsize : g.locals.size = c.maxLocals) {argsL rest : List Value} (hlen : ∀ sig, parseMethodDescriptor y.desc = some sig → argsL.length = sig.parameters.length)
    (hstack : g.stack = argsL.reverse ++ rest) (hW : 2 * g.monitorRoom + (rest.map fun v => v.category).sum ≤ W9) (hdg : decode c.code g.pc = .ok (.invokestatic index, 3))
    (hpre : ∀ vm₁, s.WarmedH vm₁ → Pre ⟨T.setVm vm₁, locs, cells, slots⟩ argsL.toArray) :
    ∃ (v : Option Value) (vm₁ : Vm) (B : Pt), s.WarmedH vm₁ ∧ Stand p l e R s m args below meth c B.U B.locs B.cells B.slots ∧ Post ⟨T.setVm vm₁, locs, cells, slots⟩ argsL.toArray v B ∧
      ∀ target, Steps p.tables e below (B.U.setTop { g with pc := g.pc + 3, stack := v.toList ++ rest }) target → Steps p.tables e below (T.setTop g) target := by
  obtain ⟨mk, methM, cM, hnamed, hmethM, -, -, -, -, -, -, hsigM⟩ := Cond.codeWith_spec hcode
  have hstatic : methM.isStatic = true := Cond.static_spec hnamed hmethM hstat
  obtain ⟨kP, hkP, -⟩ := className_of_methodNamed hnamed
  have hinitP : kP.init = .initialized := Cond.initialized_spec (findClass_of_methodNamed hnamed) hkP hinit
  obtain ⟨vm₁, X₁, hstep₁⟩ := X.invokestatic hexec hown hlink hnamed hmethM hstatic hkP hinitP hy (g := g) hg (argsL := argsL) (rest := rest) (hlen _ hsigM) hstack hdg
  obtain ⟨v, B, X', hpost, hsteps⟩ := hK m meth c ⟨T.setVm vm₁, locs, cells, slots⟩ { g with stack := rest } (.invokestatic index) mk argsL.toArray X₁ hg hsize hdg hW (X₁.named hnamed) (hpre vm₁ X₁.warmed)
  exact ⟨v, vm₁, B, X₁.warmed, X', hpost, fun target h => hstep₁ _ fun acts => by rw [doInvoke_state]; exact hsteps.trans h⟩
theorem vx_runSW {y : MethodName} {bytes cc : ByteArray} {maxL nL mc ms n index : Nat} {ret : Option FieldType} {hh : List (Nat × Nat × Nat × Nat)} {ws : List Cond} {rm : Room} {Pc : Array Value → State → Prop} {Qc : Array Value → State → Outcome → State → Prop} {free : Addr → Prop} {Ts : List Cond} {own : String} {As rest : List Value} {g : JFrame}
    (S : CallFix p m c cc nL s args Ts own) (hM : Met l y ws rm Pc Qc mc ms free) (cw : vx_CSW R s args own index y bytes maxL ret hh ws rm mc ms n) (hp : PreS s H Pc As)
    (hg : g.method = m) (hn : As.length = n) (hsize : g.locals.size = nL) (hstack : g.stack = As.reverse ++ rest) (hW : 2 * g.monitorRoom + (rest.map fun v => v.category).sum ≤ 8) (hdg : decode cc g.pc = .ok (.invokestatic index, 3)) (hf : cells + mc ≤ R.cells ∧ slots + ms ≤ R.slots) :
    va_Run p l e R s m args below meth c H locs cells slots mc ms g rest (Qc As.toArray) (free) := by
  obtain ⟨⟨hrc, hrs, hfr, hlo, hws, hcw⟩, hcode, hini, hy, hlen, hl, hstt⟩ := cw
  have hK : Back l R p e below s args y 3 8 (PreOf R mc ms Pc) (PostOf Qc mc ms free) := va_backW (hh := hh) (bytes := bytes) (maxL := maxL) (ret := ret) hM hp.1 hrc hrs hfr hlo hws hcw (fun a' U hW => word_at hW (Or.inl (by first | rfl | simp [Cond.onTables, Cond.keeps, Cond.steady])) hini)
  obtain ⟨hx, hb, hml, ho, -⟩ := S
  intro T hT X
  obtain ⟨v, vm₁, ⟨U', l2, c2, s2⟩, hW₁, X', ⟨g', mk, t, L, e1, e2, hq, h1, hL, h2, h3⟩, st⟩ := vx_callSW X hx (hh := hh) (bytes := bytes) (maxL := maxL) (ret := ret) ho hl hstt hini hcode hy hK hg (hsize.trans hml.symm) (argsL := As) (rest := rest) (fun sig h => hn.trans (hlen sig h)) hstack hW (by rw [hb]; exact hdg)
    (fun vm₁ hW₁ => ⟨hf.1, hf.2, hp.2 (T.setVm vm₁) hT hW₁⟩)
  dsimp only [Pt.U, Pt.locs, Pt.cells, Pt.slots] at X' e1 e2 h1 h2 h3 st
  subst h1; subst h2; subst h3
  exact ⟨v, (T.setVm vm₁).calling g' mk As.toArray, t, U', L, hT, X', hL, e1, e2, hq, st⟩
/-- not caught here, past rows that name other classes: it goes on to the caller -/
theorem vx_outP {p : Program} {l : Launch} {e : Env} {R : Room} {s : State} {m : MethodId} {args : Array Value} {below : List Frame} {meth : Method} {c : Code} {H : Heap} {locs : List Loc} {cells slots : Nat} {free : Addr → Prop} {ls : Array Slot} {rest : List Value} {Qc : Array Value → State → Outcome → State → Prop} {XC : String → State → State → Prop}
    {pc : Nat} {own E : String} {ce : Cell} {q : Addr} {mc ms : Nat} (hown : s.vm.findClass own = some m.cls) (hlocks : meth.locks = false)
    (hpass : ∀ z ∈ c.exceptionTable.toList, covers z pc = false ∨ (z.catchType ≠ 0 ∧ ∃ nm : String, (Cond.classLink own z.catchType nm).before args s = true ∧ va_Nc E nm s)) (hcell : H[q]? = some ce) (hv : ce.vm = .none) (hcl : s.vm.findClass E = some ce.cls)
    (hx : ∀ t : State, t.heap = H → s.vm.Alike t.vm → XC E s t) (hf : ∀ z ∈ locs, free z.base) (hc : cells ≤ mc) (hs : slots ≤ ms) :
    vx_W p l e R s m args below meth c H locs cells slots (vx_MQ below Qc XC args s mc ms free) (F0 m pc ls rest) q := by
  intro T hT X
  have hpl : e.platform.magicAccessors = ({} : Platform).magicAccessors := by rw [X.admits.platform]
  obtain ⟨vm', hW', X', st⟩ := X.outThrough hlocks q (g := F0 m pc ls rest) rfl rfl rfl (cell := ce) (by rw [hT]; exact hcell) (by rw [hv]; rfl)
    (by obtain ⟨k9, h9, -⟩ := Vm.findClass_spec hcl; exact ⟨k9, h9⟩) (fun z hz => by
      rcases hpass z hz with h | ⟨hz0, nm, hl1, hn1⟩
      · exact Or.inl h
      · obtain ⟨c6, hc6, hcl6⟩ := Cond.classLink_spec hown hl1 e.platform hpl
        obtain ⟨a8, b8, h1, h2, h3⟩ := hn1
        cases Option.some.inj (h1.symm.trans hcl)
        cases Option.some.inj (h2.symm.trans hc6)
        exact Or.inr ⟨hz0, _, hcl6, h3⟩)
  obtain ⟨g₀, hfr⟩ := X'.frames_eq
  have hcell9 : ((T.setVm vm').setFrames (.throwing q :: below)).heap[q]? = some ce := by
    show T.heap[q]? = some ce
    rw [hT]; exact hcell
  have hend : Ended ((T.setVm vm').setFrames (.throwing q :: below)) below (.threw q) := State.frames_setFrames _ (State.cur_lt_of_frames hfr)
  refine ⟨(T.setVm vm').setFrames (.throwing q :: below), ?_, .threw q, X'.here.running, hend, Or.inr ⟨q, rfl, E, ce, locs, hx _ hT (X'.ends _).1.alike, hcell9, hv, hcl, (X'.ends _).1, (X'.ends _).2.mono hc hs, hf⟩⟩
  rw [X.pushThrowing_eq]
  exact st
/-- a thing of a world lies in the heap -/
theorem vx_lt {D : va_G} {cl : List vw_C} {ws : va_W} {H1 : Heap} (h : va_P D cl ws H1) {k : Nat} {q : Nat × va_E} (hk : ws[k]? = some q) : q.1 < H1.size := (h k q hk).lt
end VXS
/-! ===== END ===== -/
/-! ===== BEGIN methods with a table of their own: called by a name, returning or throwing ===== -/
section VXH
/-! vx_backW, vx_callVX, vx_callSX, vx_callVW, vx_runVW, vx_runVX, vx_runSX, vx_ofWH follow the same proofs as their sisters above (Free/Laws.lean, Shelf42/LK1.lean); vx_outP calls Shelf42/NT130.lean (outThrough). -/
section
variable {l : Launch} {R : Room} {p : Program} {e : Env} {below : List Frame} {s : State} {sargs : Array Value} {y : MethodName} {len W9 : Nat}
theorem vx_backW {ws : List Cond} {rm : Room} {Pc : Array Value → State → Prop} {Qc : Array Value → State → Outcome → State → Prop} {XC : String → State → State → Prop} {mc ms : Nat} {free : Addr → Prop} {bytes : ByteArray} {maxL : Nat} {ret : Option FieldType} {hh : List (Nat × Nat × Nat × Nat)}
    (hM : vx_Met l y ws rm Pc Qc XC mc ms free) (hblind : FrameBlind Pc) (hrc : rm.cells = mc) (hrs : rm.slots = ms)
    (hframes : rm.frames + 1 ≤ R.frames) (hlocals : W9 + (maxL + 11) + rm.locals ≤ R.locals)
    (hws : ∀ w ∈ ws, ∀ a' U, s.WarmedH U.vm → w.before a' U = true) (hcode : Cond.codeWith y bytes maxL ret hh ∈ ws) (hinit : ∀ a' U, s.WarmedH U.vm → (Cond.initialized y.cls).before a' U = true) :
    vx_Back l R p e below s sargs y len W9 (PreOf R mc ms Pc) (PostOf Qc mc ms free) (vx_Post XC mc ms free) := by
  intro m meth c A g ig mk a X hg hsize hdg hW hn hp
  have h1 : (headSpec ws rm).pre.before a A.U = true := atoms_intro fun w hw => hws w hw _ _ X.warmed
  have h2 : (Cond.codeWith y bytes maxL ret hh).before a A.U = true := hws _ hcode _ _ X.warmed
  have h3 : (Cond.initialized y.cls).before a A.U = true := hinit _ _ X.warmed
  have h4 : A.cells + (headSpec ws rm).room.cells ≤ R.cells := by rw [show (headSpec ws rm).room.cells = mc from hrc]; exact hp.1
  have h5 : A.slots + (headSpec ws rm).room.slots ≤ R.slots := by rw [show (headSpec ws rm).room.slots = ms from hrs]; exact hp.2.1
  have hPc : Pc a (A.U.calling g mk a) := hblind _ _ _ _ hp.2.2
  obtain ⟨U, Ls, c0, s0⟩ := A
  dsimp only [Pt.U, Pt.locs, Pt.cells, Pt.slots] at h1 h2 h3 h4 h5 X hn hPc ⊢
  obtain ⟨m9, methY, cY, hn9, hmY, hcY, -, hlY, -⟩ := Cond.codeWith_spec h2
  cases Option.some.inj (hn9.symm.trans hn)
  obtain ⟨kY, hkY, -⟩ := className_of_methodNamed hn
  have hinitY : kY.init = .initialized := Cond.initialized_spec (findClass_of_methodNamed hn) hkY h3
  have h : At U g.method c below := by rw [hg]; exact X.here
  have hlocals9 : W9 + (maxL + 11) + (headSpec ws rm).room.locals ≤ R.locals := hlocals
  have happ : (headSpec ws rm).appliesLoose y e.platform (U.calling g mk a) = true :=
    Spec.appliesLoose_calling (g := g) h hdg hn hkY hinitY
      (X.room_calling (g := g) (R' := (headSpec ws rm).room) hsize hmY hcY hframes (by rw [hlY]; omega) h4 h5) h1
  obtain ⟨mid, hmid⟩ := h.above
  have hfr : (U.setTop g).frames = (.java g :: mid) ++ below := by rw [State.frames_setTop' g h.top, hmid]; rfl
  obtain ⟨o, s₂, hsteps, -, hend, hq⟩ := Steps.callFree hM p X.admits X.cas X.clock (acts := []) hfr happ hPc trivial
  have hq' : vx_Q Qc XC mc ms free a (U.calling g mk a) o s₂ := hq
  rw [State.frames_setTop' g h.top] at hend
  obtain ⟨g₀, hg0⟩ := Option.isSome_iff_exists.mp h.top
  obtain ⟨r, hr⟩ := State.topJava?_eq_some.mp hg0
  have hr' : (({ U with heap := s₂.heap, slotsUsed := s₂.slotsUsed } : State).setVm s₂.vm).frames = .java g₀ :: r := hr
  rcases hq' with ⟨hqc, L, hfe, hL⟩ | ⟨q, rfl, E, ce, L, hx, hce, hcv, hcl, hW₂, hsm, hL⟩
  · obtain ⟨⟨v, rfl⟩, hW₂, e2, q2, q3, q4, q5, q6⟩ := id hfe
    have e3 : s₂ = ({ (U.calling g mk a).setFrames s₂.frames with heap := s₂.heap, slotsUsed := s₂.slotsUsed } : State).setVm s₂.vm := by
      have : s₂ = ({ s₂ with vm := (U.calling g mk a).vm } : State).setVm s₂.vm := rfl
      rw [e2] at this
      exact this
    obtain ⟨c₂, i₂, len₂, hc₂, hd₂, hf₂⟩ := hend
    have hW' : U.WarmedH s₂.vm := hW₂
    have hcc : c₂ = c := by
      have h1 : s₂.code? g.method = U.code? g.method := by
        rw [State.code?_eq, State.code?_eq, hW'.alike.method?]
      exact Option.some.inj (hc₂.symm.trans (h1.trans h.code))
    subst hcc
    have hlen : len₂ = len := by rw [hdg] at hd₂; cases hd₂; rfl
    subst hlen
    have hs₂ : s₂ = (({ U with heap := s₂.heap, slotsUsed := s₂.slotsUsed } : State).setVm s₂.vm).setTop { g with pc := g.pc + len₂, stack := v.toList ++ g.stack } := by
      refine e3.trans ?_
      rw [hf₂, State.calling_eq h.top, State.setFrames_setFrames, State.setTop_of_frames _ hr', hr]
      rfl
    have hsame : U.sameButNew ({ U with heap := s₂.heap, slotsUsed := s₂.slotsUsed } : State) L mc ms := by
      refine ⟨?_, q2, q3, q4, q5, q6⟩
      obtain ⟨t, ht, -⟩ := State.frames_cons hr
      show ({ U with heap := s₂.heap, slotsUsed := s₂.slotsUsed } : State) = { U.setFrames U.frames with heap := s₂.heap, slotsUsed := s₂.slotsUsed }
      rw [State.setFrames_self ht]
    subst hg
    refine Or.inl ⟨v, ⟨(({ U with heap := s₂.heap, slotsUsed := s₂.slotsUsed } : State).setVm s₂.vm), Ls ++ L, c0 + mc, s0 + ms⟩,
      ⟨X.admits, X.cas, X.clock, X.frames, X.room, X.hears, X.method, X.code, (X.here.setHeapUsed s₂.heap s₂.slotsUsed).setVm hW'.alike, X.tail, State.WarmedH.trans X.warmed hW', X.limits, X.bytes, X.same.trans (hsame.setVm s.vm)⟩,
      ⟨g, mk, s₂, L, rfl, rfl, hqc, rfl, hL, rfl, rfl⟩, ?_⟩
    show Steps p.tables e below _ ((({ U with heap := s₂.heap, slotsUsed := s₂.slotsUsed } : State).setVm s₂.vm).setTop { g with pc := g.pc + len₂, stack := v.toList ++ g.stack })
    rw [← hs₂]
    exact hsteps
  · obtain ⟨e2, q2, q3, q4, q5, q6⟩ := id hsm
    have e3 : s₂ = ({ (U.calling g mk a).setFrames s₂.frames with heap := s₂.heap, slotsUsed := s₂.slotsUsed } : State).setVm s₂.vm := by
      have : s₂ = ({ s₂ with vm := (U.calling g mk a).vm } : State).setVm s₂.vm := rfl
      rw [e2] at this
      exact this
    have hf₂ : s₂.frames = .throwing q :: .java g :: U.frames.tail := hend
    have hW' : U.WarmedH s₂.vm := hW₂
    have hs₂ : s₂ = ((({ U with heap := s₂.heap, slotsUsed := s₂.slotsUsed } : State).setVm s₂.vm).setTop g).pushFrame (.throwing q) := by
      refine e3.trans ?_
      rw [hf₂, State.calling_eq h.top, State.setFrames_setFrames, State.pushFrame, State.frames_setTop _ hr', State.setTop_of_frames _ hr', State.setFrames_setFrames, hr]
      rfl
    have hsame : U.sameButNew ({ U with heap := s₂.heap, slotsUsed := s₂.slotsUsed } : State) L mc ms := by
      refine ⟨?_, q2, q3, q4, q5, q6⟩
      obtain ⟨t, ht, -⟩ := State.frames_cons hr
      show ({ U with heap := s₂.heap, slotsUsed := s₂.slotsUsed } : State) = { U.setFrames U.frames with heap := s₂.heap, slotsUsed := s₂.slotsUsed }
      rw [State.setFrames_self ht]
    subst hg
    refine Or.inr ⟨q, ⟨(({ U with heap := s₂.heap, slotsUsed := s₂.slotsUsed } : State).setVm s₂.vm), Ls ++ L, c0 + mc, s0 + ms⟩,
      ⟨X.admits, X.cas, X.clock, X.frames, X.room, X.hears, X.method, X.code, (X.here.setHeapUsed s₂.heap s₂.slotsUsed).setVm hW'.alike, X.tail, State.WarmedH.trans X.warmed hW', X.limits, X.bytes, X.same.trans (hsame.setVm s.vm)⟩,
      ⟨g, mk, s₂, L, E, ce, rfl, rfl, hx, hce, hcv, hcl, rfl, hL, rfl, rfl⟩, ?_⟩
    show Steps p.tables e below _ (((({ U with heap := s₂.heap, slotsUsed := s₂.slotsUsed } : State).setVm s₂.vm).setTop g).pushFrame (.throwing q))
    rw [← hs₂]
    exact hsteps
end
variable {p : Program} {l : Launch} {e : Env} {R : Room} {s : State} {m : MethodId} {args : Array Value} {below : List Frame} {meth : Method} {c : Code} {T : State} {H : Heap} {locs : List Loc} {cells slots : Nat}
theorem vx_callVX (X : Stand p l e R s m args below meth c T locs cells slots) (hexec : p.tables.exec = Jvm.exec) {own C : String} {index : Nat} {y : MethodName} {bytes : ByteArray} {maxL : Nat} {ret : Option FieldType} {hh : List (Nat × Nat × Nat × Nat)}
    (hown : s.vm.findClass own = some m.cls) (hlink : (Cond.methodLink own index y).before args s = true) (hinst : (Cond.instanceMethod y).before args s = true) (hsel : (Cond.selects C y y).before args s = true)
    (hcode : (Cond.codeWith y bytes maxL ret hh).before args s = true) (hy : y.cls ≠ "java/lang/invoke/MethodHandle" ∧ y.cls ≠ "java/lang/invoke/VarHandle")
    {W9 : Nat} {Pre : Pt → Array Value → Prop} {Post : Pt → Array Value → Option Value → Pt → Prop} {PostX : Pt → Array Value → Addr → Pt → Prop} (hK : vx_Back l R p e below s args y 3 W9 Pre Post PostX)
    {b : Addr} {cellB : Cell} (hcell : T.heap[b]? = some cellB) (hobj : cellB.vm.isStatics = false) (hcls : s.vm.findClass C = some cellB.cls)
    {g : JFrame} (hg : g.method = m) (hsize : g.locals.size = c.maxLocals) {argsL rest : List Value} (hlen : ∀ sig, parseMethodDescriptor y.desc = some sig → argsL.length = sig.parameters.length)
    (hstack : g.stack = argsL.reverse ++ .ref b :: rest) (hW : 2 * g.monitorRoom + (rest.map fun v => v.category).sum ≤ W9) (hdg : decode c.code g.pc = .ok (.invokevirtual index, 3))
    (hpre : ∀ vm₁, s.WarmedH vm₁ → Pre ⟨T.setVm vm₁, locs, cells, slots⟩ (Value.ref b :: argsL).toArray) :
    (∃ (v : Option Value) (vm₁ : Vm) (B : Pt), s.WarmedH vm₁ ∧ Stand p l e R s m args below meth c B.U B.locs B.cells B.slots ∧ Post ⟨T.setVm vm₁, locs, cells, slots⟩ (Value.ref b :: argsL).toArray v B ∧
      ∀ target, Steps p.tables e below (B.U.setTop { g with pc := g.pc + 3, stack := v.toList ++ rest }) target → Steps p.tables e below (T.setTop g) target) ∨
    (∃ (q : Addr) (vm₁ : Vm) (B : Pt), s.WarmedH vm₁ ∧ Stand p l e R s m args below meth c B.U B.locs B.cells B.slots ∧ PostX ⟨T.setVm vm₁, locs, cells, slots⟩ (Value.ref b :: argsL).toArray q B ∧
      Steps p.tables e below (T.setTop g) ((B.U.setTop { g with stack := rest }).pushFrame (.throwing q))) := by
  obtain ⟨mk, methM, hnamed, hmethM, hstM, habM⟩ := Cond.instanceMethod_spec hinst
  obtain ⟨m8, methM', cM, hn8, hmethM', -, -, -, -, -, -, hsigM⟩ := Cond.codeWith_spec hcode
  cases Option.some.inj (hn8.symm.trans hnamed)
  cases hmethM.symm.trans hmethM'
  obtain ⟨c2, r2, m2, q1, q2, q3, q4, kP, hkP, hkPi⟩ := Cond.selects_spec hsel
  cases hcls.symm.trans q1
  cases (State.methodFound?_of_named hnamed hy).symm.trans q2
  cases hnamed.symm.trans q3
  have hselP : selectMethod e.platform s.vm cellB.cls mk = .method mk := by rw [Launch.admits_selectMethod X.admits]; exact q4
  obtain ⟨vm₁, X₁, hstep₁⟩ := X.invokevirtual hexec hown hlink hnamed hmethM hstM hkP hkPi hy (a := b) (cell := cellB) hcell
    (fun z h => by rw [h] at hobj; cases hobj) hselP hmethM habM hkP hkPi (g := g) hg (argsL := argsL) (rest := rest) (hlen _ hsigM) hstack hdg
  rcases hK m meth c ⟨T.setVm vm₁, locs, cells, slots⟩ { g with stack := rest } (.invokevirtual index) mk (Value.ref b :: argsL).toArray X₁ hg hsize hdg hW (X₁.named hnamed) (hpre vm₁ X₁.warmed) with ⟨v, B, X', hpost, hsteps⟩ | ⟨q, B, X', hpost, hsteps⟩
  · exact Or.inl ⟨v, vm₁, B, X₁.warmed, X', hpost, fun target h => hstep₁ _ fun acts => by rw [doInvoke_state]; exact hsteps.trans h⟩
  · exact Or.inr ⟨q, vm₁, B, X₁.warmed, X', hpost, hstep₁ _ fun acts => by rw [doInvoke_state]; exact hsteps⟩
theorem vx_callSX (X : Stand p l e R s m args below meth c T locs cells slots) (hexec : p.tables.exec = Jvm.exec) {own : String} {index : Nat} {y : MethodName} {bytes : ByteArray} {maxL : Nat} {ret : Option FieldType} {hh : List (Nat × Nat × Nat × Nat)}
    (hown : s.vm.findClass own = some m.cls) (hlink : (Cond.methodLink own index y).before args s = true) (hstat : (Cond.static y).before args s = true) (hinit : (Cond.initialized y.cls).before args s = true)
    (hcode : (Cond.codeWith y bytes maxL ret hh).before args s = true) (hy : y.cls ≠ "java/lang/invoke/MethodHandle" ∧ y.cls ≠ "java/lang/invoke/VarHandle")
    {W9 : Nat} {Pre : Pt → Array Value → Prop} {Post : Pt → Array Value → Option Value → Pt → Prop} {PostX : Pt → Array Value → Addr → Pt → Prop} (hK : vx_Back l R p e below s args y 3 W9 Pre Post PostX)
    {g : JFrame} (hg : g.method = m) (hsize : g.locals.size = c.maxLocals) {argsL rest : List Value} (hlen : ∀ sig, parseMethodDescriptor y.desc = some sig → argsL.length = sig.parameters.length)
    (hstack : g.stack = argsL.reverse ++ rest) (hW : 2 * g.monitorRoom + (rest.map fun v => v.category).sum ≤ W9) (hdg : decode c.code g.pc = .ok (.invokestatic index, 3))
    (hpre : ∀ vm₁, s.WarmedH vm₁ → Pre ⟨T.setVm vm₁, locs, cells, slots⟩ argsL.toArray) :
    (∃ (v : Option Value) (vm₁ : Vm) (B : Pt), s.WarmedH vm₁ ∧ Stand p l e R s m args below meth c B.U B.locs B.cells B.slots ∧ Post ⟨T.setVm vm₁, locs, cells, slots⟩ argsL.toArray v B ∧
      ∀ target, Steps p.tables e below (B.U.setTop { g with pc := g.pc + 3, stack := v.toList ++ rest }) target → Steps p.tables e below (T.setTop g) target) ∨
    (∃ (q : Addr) (vm₁ : Vm) (B : Pt), s.WarmedH vm₁ ∧ Stand p l e R s m args below meth c B.U B.locs B.cells B.slots ∧ PostX ⟨T.setVm vm₁, locs, cells, slots⟩ argsL.toArray q B ∧
      Steps p.tables e below (T.setTop g) ((B.U.setTop { g with stack := rest }).pushFrame (.throwing q))) := by
  obtain ⟨mk, methM, cM, hnamed, hmethM, -, -, -, -, -, -, hsigM⟩ := Cond.codeWith_spec hcode
  have hstatic : methM.isStatic = true := Cond.static_spec hnamed hmethM hstat
  obtain ⟨kP, hkP, -⟩ := className_of_methodNamed hnamed
  have hinitP : kP.init = .initialized := Cond.initialized_spec (findClass_of_methodNamed hnamed) hkP hinit
  obtain ⟨vm₁, X₁, hstep₁⟩ := X.invokestatic hexec hown hlink hnamed hmethM hstatic hkP hinitP hy (g := g) hg (argsL := argsL) (rest := rest) (hlen _ hsigM) hstack hdg
  rcases hK m meth c ⟨T.setVm vm₁, locs, cells, slots⟩ { g with stack := rest } (.invokestatic index) mk argsL.toArray X₁ hg hsize hdg hW (X₁.named hnamed) (hpre vm₁ X₁.warmed) with ⟨v, B, X', hpost, hsteps⟩ | ⟨q, B, X', hpost, hsteps⟩
  · exact Or.inl ⟨v, vm₁, B, X₁.warmed, X', hpost, fun target h => hstep₁ _ fun acts => by rw [doInvoke_state]; exact hsteps.trans h⟩
  · exact Or.inr ⟨q, vm₁, B, X₁.warmed, X', hpost, hstep₁ _ fun acts => by rw [doInvoke_state]; exact hsteps⟩
theorem vx_callVW (X : Stand p l e R s m args below meth c T locs cells slots) (hexec : p.tables.exec = Jvm.exec) {own C : String} {index : Nat} {y : MethodName} {bytes : ByteArray} {maxL : Nat} {ret : Option FieldType} {hh : List (Nat × Nat × Nat × Nat)}
    (hown : s.vm.findClass own = some m.cls) (hlink : (Cond.methodLink own index y).before args s = true) (hinst : (Cond.instanceMethod y).before args s = true) (hsel : (Cond.selects C y y).before args s = true)
    (hcode : (Cond.codeWith y bytes maxL ret hh).before args s = true) (hy : y.cls ≠ "java/lang/invoke/MethodHandle" ∧ y.cls ≠ "java/lang/invoke/VarHandle")
    {W9 : Nat} {Pre : Pt → Array Value → Prop} {Post : Pt → Array Value → Option Value → Pt → Prop} (hK : Back l R p e below s args y 3 W9 Pre Post)
    {b : Addr} {cellB : Cell} (hcell : T.heap[b]? = some cellB) (hobj : cellB.vm.isStatics = false) (hcls : s.vm.findClass C = some cellB.cls)
    {g : JFrame} (hg : g.method = m) (hsize : g.locals.size = c.maxLocals) {argsL rest : List Value} (hlen : ∀ sig, parseMethodDescriptor y.desc = some sig → argsL.length = sig.parameters.length)
    (hstack : g.stack = argsL.reverse ++ .ref b :: rest) (hW : 2 * g.monitorRoom + (rest.map fun v => v.category).sum ≤ W9) (hdg : decode c.code g.pc = .ok (.invokevirtual index, 3))
    (hpre : ∀ vm₁, s.WarmedH vm₁ → Pre ⟨T.setVm vm₁, locs, cells, slots⟩ (Value.ref b :: argsL).toArray) :
    ∃ (v : Option Value) (vm₁ : Vm) (B : Pt), s.WarmedH vm₁ ∧ Stand p l e R s m args below meth c B.U B.locs B.cells B.slots ∧ Post ⟨T.setVm vm₁, locs, cells, slots⟩ (Value.ref b :: argsL).toArray v B ∧
      ∀ target, Steps p.tables e below (B.U.setTop { g with pc := g.pc + 3, stack := v.toList ++ rest }) target → Steps p.tables e below (T.setTop g) target := by
  obtain ⟨mk, methM, hnamed, hmethM, hstM, habM⟩ := Cond.instanceMethod_spec hinst
  obtain ⟨m8, methM', cM, hn8, hmethM', -, -, -, -, -, -, hsigM⟩ := Cond.codeWith_spec hcode
  cases Option.some.inj (hn8.symm.trans hnamed)
  cases hmethM.symm.trans hmethM'
  obtain ⟨c2, r2, m2, q1, q2, q3, q4, kP, hkP, hkPi⟩ := Cond.selects_spec hsel
  cases hcls.symm.trans q1
  cases (State.methodFound?_of_named hnamed hy).symm.trans q2
  cases hnamed.symm.trans q3
  have hselP : selectMethod e.platform s.vm cellB.cls mk = .method mk := by rw [Launch.admits_selectMethod X.admits]; exact q4
  obtain ⟨vm₁, X₁, hstep₁⟩ := X.invokevirtual hexec hown hlink hnamed hmethM hstM hkP hkPi hy (a := b) (cell := cellB) hcell
    (fun z h => by rw [h] at hobj; cases hobj) hselP hmethM habM hkP hkPi (g := g) hg (argsL := argsL) (rest := rest) (hlen _ hsigM) hstack hdg
  obtain ⟨v, B, X', hpost, hsteps⟩ := hK m meth c ⟨T.setVm vm₁, locs, cells, slots⟩ { g with stack := rest } (.invokevirtual index) mk (Value.ref b :: argsL).toArray X₁ hg hsize hdg hW (X₁.named hnamed) (hpre vm₁ X₁.warmed)
  exact ⟨v, vm₁, B, X₁.warmed, X', hpost, fun target h => hstep₁ _ fun acts => by rw [doInvoke_state]; exact hsteps.trans h⟩
abbrev vx_CVW (R : Room) (s : State) (args : Array Value) (own C : String) (index : Nat) (y : MethodName) (bytes : ByteArray) (maxL : Nat) (ret : Option FieldType) (hh : List (Nat × Nat × Nat × Nat)) (ws : List Cond) (rm : Room) (mc ms n : Nat) : Prop :=
  (rm.cells = mc ∧ rm.slots = ms ∧ rm.frames + 1 ≤ R.frames ∧ 8 + (maxL + 11) + rm.locals ≤ R.locals ∧ (∀ w ∈ ws, ∀ (a' : Array Value) (U : State), s.WarmedH U.vm → w.before a' U = true) ∧ Cond.codeWith y bytes maxL ret hh ∈ ws) ∧
  (Cond.codeWith y bytes maxL ret hh).before args s = true ∧ (Cond.initialized y.cls).before args s = true ∧ (y.cls ≠ "java/lang/invoke/MethodHandle" ∧ y.cls ≠ "java/lang/invoke/VarHandle") ∧
  (∀ sig, parseMethodDescriptor y.desc = some sig → n = sig.parameters.length) ∧ (Cond.methodLink own index y).before args s = true ∧ (Cond.instanceMethod y).before args s = true ∧ (Cond.selects C y y).before args s = true
theorem vx_cwVW {own C : String} {index maxL mc ms : Nat} {y : MethodName} {bytes : ByteArray} {ret : Option FieldType} {hh : List (Nat × Nat × Nat × Nat)} {Ts ws ws' : List Cond} {rm : Room} (n : Nat) (ht : ∀ w ∈ Ts, w.before args s = true) (hT : GoodIn Ts (wsV own index C y ws)) (hw : ws = Cond.codeWith y bytes maxL ret hh :: ws') (hrc : rm.cells = mc) (hrs : rm.slots = ms)
    (hd : y.cls = C ∧ y.cls ≠ "java/lang/invoke/MethodHandle" ∧ y.cls ≠ "java/lang/invoke/VarHandle" ∧ (parseMethodDescriptor y.desc).map (fun d => d.parameters.length) = some n) (hR : rm.frames + 1 ≤ R.frames ∧ 8 + (maxL + 11) + rm.locals ≤ R.locals) :
    vx_CVW R s args own C index y bytes maxL ret hh ws rm mc ms n := by
  obtain ⟨hC, hd⟩ := hd
  subst hC
  have ok : ∀ w ∈ wsV own index y.cls y ws, w.before args s = true := fun w h => ht w (hT w h).1
  have hG : GoodIn Ts ws := fun w h => hT w (by unfold wsV; exact List.mem_append_right _ h)
  have hc : Cond.codeWith y bytes maxL ret hh ∈ ws := by rw [hw]; exact List.mem_cons_self
  refine ⟨⟨hrc, hrs, hR.1, hR.2, pay_in ht hG, hc⟩, ht _ (hG _ hc).1, ok _ (by simp [wsV]), ⟨hd.1, hd.2.1⟩, fun sig h => ?_, ok _ (by simp [wsV]), ok _ (by simp [wsV]), ok _ (by simp [wsV])⟩
  have h2 := hd.2.2
  rw [h] at h2
  exact (Option.some.inj h2).symm
theorem vx_runVW {y : MethodName} {bytes cc : ByteArray} {maxL nL mc ms n index : Nat} {ret : Option FieldType} {hh : List (Nat × Nat × Nat × Nat)} {ws : List Cond} {rm : Room} {Pc : Array Value → State → Prop} {Qc : Array Value → State → Outcome → State → Prop} {free : Addr → Prop} {Ts : List Cond} {own C : String} {b : Addr} {As rest : List Value} {g : JFrame}
    (S : CallFix p m c cc nL s args Ts own) (hM : Met l y ws rm Pc Qc mc ms free) (cw : vx_CVW R s args own C index y bytes maxL ret hh ws rm mc ms n) (hp : PreV s H C b Pc As)
    (hg : g.method = m) (hn : As.length = n) (hsize : g.locals.size = nL) (hstack : g.stack = As.reverse ++ .ref b :: rest) (hW : 2 * g.monitorRoom + (rest.map fun v => v.category).sum ≤ 8) (hdg : decode cc g.pc = .ok (.invokevirtual index, 3)) (hf : cells + mc ≤ R.cells ∧ slots + ms ≤ R.slots) :
    va_Run p l e R s m args below meth c H locs cells slots mc ms g rest (Qc (Value.ref b :: As).toArray) free := by
  obtain ⟨⟨hrc, hrs, hfr, hlo, hws, hcw⟩, hcode, hini, hy, hlen, hl, hin, hse⟩ := cw
  have hK : Back l R p e below s args y 3 8 (PreOf R mc ms Pc) (PostOf Qc mc ms free) := va_backW (hh := hh) (bytes := bytes) (maxL := maxL) (ret := ret) hM hp.1 hrc hrs hfr hlo hws hcw (fun a' U hW => word_at hW (Or.inl (by first | rfl | simp [Cond.onTables, Cond.keeps, Cond.steady])) hini)
  obtain ⟨hx, hb, hml, ho, -⟩ := S
  obtain ⟨-, ⟨cellB, hcB, hoB, hclB⟩, hPc⟩ := hp
  intro T hT X
  obtain ⟨v, vm₁, ⟨U', l2, c2, s2⟩, hW₁, X', ⟨g', mk, t, L, e1, e2, hq, h1, hL, h2, h3⟩, st⟩ := vx_callVW X hx (C := C) (hh := hh) (bytes := bytes) (maxL := maxL) (ret := ret) ho hl hin hse hcode hy hK (by rw [hT]; exact hcB) hoB hclB hg (hsize.trans hml.symm) (argsL := As) (rest := rest) (fun sig h => hn.trans (hlen sig h)) hstack hW (by rw [hb]; exact hdg)
    (fun vm₁ hW₁ => ⟨hf.1, hf.2, hPc (T.setVm vm₁) hT hW₁⟩)
  dsimp only [Pt.U, Pt.locs, Pt.cells, Pt.slots] at X' e1 e2 h1 h2 h3 st
  subst h1; subst h2; subst h3
  exact ⟨v, (T.setVm vm₁).calling g' mk (Value.ref b :: As).toArray, t, U', L, hT, X', hL, e1, e2, hq, st⟩
section
variable {y : MethodName} {bytes cc : ByteArray} {maxL nL mc ms n index : Nat} {ret : Option FieldType} {ws : List Cond} {rm : Room} {Pc : Array Value → State → Prop} {Qc : Array Value → State → Outcome → State → Prop} {XC : String → State → State → Prop} {free : Addr → Prop} {Ts : List Cond} {own C : String} {b : Addr} {As rest : List Value} {g : JFrame}
theorem vx_runVX {hh : List (Nat × Nat × Nat × Nat)} (S : CallFix p m c cc nL s args Ts own) (hM : vx_Met l y ws rm Pc Qc XC mc ms free) (cw : vx_CVW R s args own C index y bytes maxL ret hh ws rm mc ms n) (hp : PreV s H C b Pc As)
    (hg : g.method = m) (hn : As.length = n) (hsize : g.locals.size = nL) (hstack : g.stack = As.reverse ++ .ref b :: rest) (hW : 2 * g.monitorRoom + (rest.map fun v => v.category).sum ≤ 8) (hdg : decode cc g.pc = .ok (.invokevirtual index, 3)) (hf : cells + mc ≤ R.cells ∧ slots + ms ≤ R.slots) :
    vx_Run p l e R s m args below meth c H locs cells slots mc ms g rest (Qc (Value.ref b :: As).toArray) XC free := by
  obtain ⟨⟨hrc, hrs, hfr, hlo, hws, hcw⟩, hcode, hini, hy, hlen, hl, hin, hse⟩ := cw
  have hK : vx_Back l R p e below s args y 3 8 (PreOf R mc ms Pc) (PostOf Qc mc ms free) (vx_Post XC mc ms free) := vx_backW (hh := hh) (bytes := bytes) (maxL := maxL) (ret := ret) hM hp.1 hrc hrs hfr hlo hws hcw (fun a' U hW => word_at hW (Or.inl (by first | rfl | simp [Cond.onTables, Cond.keeps, Cond.steady])) hini)
  obtain ⟨hx, hb, hml, ho, -⟩ := S
  obtain ⟨-, ⟨cellB, hcB, hoB, hclB⟩, hPc⟩ := hp
  intro T hT X
  rcases vx_callVX X hx (C := C) (hh := hh) (bytes := bytes) (maxL := maxL) (ret := ret) ho hl hin hse hcode hy hK (by rw [hT]; exact hcB) hoB hclB hg (hsize.trans hml.symm) (argsL := As) (rest := rest) (fun sig h => hn.trans (hlen sig h)) hstack hW (by rw [hb]; exact hdg)
    (fun vm₁ hW₁ => ⟨hf.1, hf.2, hPc (T.setVm vm₁) hT hW₁⟩) with ⟨v, vm₁, ⟨U', l2, c2, s2⟩, hW₁, X', ⟨g', mk, t, L, e1, e2, hq, h1, hL, h2, h3⟩, st⟩ | ⟨q, vm₁, ⟨U', l2, c2, s2⟩, hW₁, X', ⟨g', mk, t, L, E, ce, e1, e2, hq, hce, hcv, hcl, h1, hL, h2, h3⟩, st⟩
  · dsimp only [Pt.U, Pt.locs, Pt.cells, Pt.slots] at X' e1 e2 h1 h2 h3 st
    subst h1; subst h2; subst h3
    exact Or.inl ⟨v, (T.setVm vm₁).calling g' mk (Value.ref b :: As).toArray, t, U', L, hT, X', hL, e1, e2, hq, st⟩
  · dsimp only [Pt.U, Pt.locs, Pt.cells, Pt.slots] at X' e1 e2 h1 h2 h3 st hcl
    subst h1; subst h2; subst h3
    exact Or.inr ⟨q, (T.setVm vm₁).calling g' mk (Value.ref b :: As).toArray, t, U', L, E, ce, hT, X', hL, e1, e2, hq, hce, hcv, vx_cls hW₁ hcl, st⟩
theorem vx_runSX {hh : List (Nat × Nat × Nat × Nat)} (S : CallFix p m c cc nL s args Ts own) (hM : vx_Met l y ws rm Pc Qc XC mc ms free) (cw : vx_CSW R s args own index y bytes maxL ret hh ws rm mc ms n) (hp : PreS s H Pc As)
    (hg : g.method = m) (hn : As.length = n) (hsize : g.locals.size = nL) (hstack : g.stack = As.reverse ++ rest) (hW : 2 * g.monitorRoom + (rest.map fun v => v.category).sum ≤ 8) (hdg : decode cc g.pc = .ok (.invokestatic index, 3)) (hf : cells + mc ≤ R.cells ∧ slots + ms ≤ R.slots) :
    vx_Run p l e R s m args below meth c H locs cells slots mc ms g rest (Qc As.toArray) XC free := by
  obtain ⟨⟨hrc, hrs, hfr, hlo, hws, hcw⟩, hcode, hini, hy, hlen, hl, hstt⟩ := cw
  have hK : vx_Back l R p e below s args y 3 8 (PreOf R mc ms Pc) (PostOf Qc mc ms free) (vx_Post XC mc ms free) := vx_backW (hh := hh) (bytes := bytes) (maxL := maxL) (ret := ret) hM hp.1 hrc hrs hfr hlo hws hcw (fun a' U hW => word_at hW (Or.inl (by first | rfl | simp [Cond.onTables, Cond.keeps, Cond.steady])) hini)
  obtain ⟨hx, hb, hml, ho, -⟩ := S
  intro T hT X
  rcases vx_callSX X hx (hh := hh) (bytes := bytes) (maxL := maxL) (ret := ret) ho hl hstt hini hcode hy hK hg (hsize.trans hml.symm) (argsL := As) (rest := rest) (fun sig h => hn.trans (hlen sig h)) hstack hW (by rw [hb]; exact hdg)
    (fun vm₁ hW₁ => ⟨hf.1, hf.2, hp.2 (T.setVm vm₁) hT hW₁⟩) with ⟨v, vm₁, ⟨U', l2, c2, s2⟩, hW₁, X', ⟨g', mk, t, L, e1, e2, hq, h1, hL, h2, h3⟩, st⟩ | ⟨q, vm₁, ⟨U', l2, c2, s2⟩, hW₁, X', ⟨g', mk, t, L, E, ce, e1, e2, hq, hce, hcv, hcl, h1, hL, h2, h3⟩, st⟩
  · dsimp only [Pt.U, Pt.locs, Pt.cells, Pt.slots] at X' e1 e2 h1 h2 h3 st
    subst h1; subst h2; subst h3
    exact Or.inl ⟨v, (T.setVm vm₁).calling g' mk As.toArray, t, U', L, hT, X', hL, e1, e2, hq, st⟩
  · dsimp only [Pt.U, Pt.locs, Pt.cells, Pt.slots] at X' e1 e2 h1 h2 h3 st hcl
    subst h1; subst h2; subst h3
    exact Or.inr ⟨q, (T.setVm vm₁).calling g' mk As.toArray, t, U', L, E, ce, hT, X', hL, e1, e2, hq, hce, hcv, vx_cls hW₁ hcl, st⟩
end
end VXH
theorem vx_ofWH {l : Launch} {y : MethodName} {ws ws' : List Cond} {rm : Room} {Pc : Array Value → State → Prop} {Qc : Array Value → State → Outcome → State → Prop} {XC : String → State → State → Prop} {mc ms : Nat} {free : Addr → Prop} {cc : ByteArray} {maxL : Nat} {ret : Option FieldType} {hh : List (Nat × Nat × Nat × Nat)}
    (hy : plainName y.cls = true) (hw : ws = Cond.codeWith y cc maxL ret hh :: ws')
    (body : ∀ p e s m args below meth c s₁, BodyLoose p l y (headSpec ws rm) cc maxL ret e s m args below meth c s₁ → c.maxLocals = maxL → Pc args s →
      W p l e (headSpec ws rm).room s m args below meth c s.heap [] 0 0 (vx_MQ below Qc XC args s mc ms free) (entryFrame m args maxL)) : vx_Met l y ws rm Pc Qc XC mc ms free := by
  refine MetFree.of_bodyS (code := cc) (maxLocals := maxL) (ret := ret) hy ?_ ?_
  · intro args s m h hn
    obtain ⟨m9, meth, c, hn9, h1, h2, h3, h4, -, h5, h6, -⟩ := Cond.codeWith_spec (atoms_spec (ws := ws) h _ (by rw [hw]; exact List.mem_cons_self))
    cases hn.symm.trans hn9
    exact ⟨meth, c, h1, h2, h3, h4, h5, h6⟩
  · intro p e s m args below meth c s₁ B hml hP _
    have hh0 : s₁.heap = s.heap := by rw [B.state]; rfl
    obtain ⟨t, a1, o, b1, b2, b3⟩ := body p e s m args below meth c s₁ B hml hP s₁ hh0 (Stand.of_body B)
    exact ⟨t, o, a1, b1, b2, b3⟩
/-! ===== END ===== -/
/-! ===== BEGIN what the machine throws by itself, no traces kept ===== -/
section VXM
set_option maxHeartbeats 1000000 in
/-- the machine throws cls with the message text, no traces kept: from its note over the frame g to 'throwing' over the same frame (follows the proofs of Stand.vmThrowsMessage, Shelf/KitTracedVmS.lean, and Stand.throwsMessageColdBareV, StandMessageColdV.lean, without the step out of the frame) -/
theorem vx_vmAt {p : Program} {l : Launch} {e : Env} {R : Room} {s : State} {m₀ : MethodId} {args : Array Value} {below : List Frame} {meth : Method} {c : Code} {W : State} {locs : List Loc} {cells slots : Nat}
    (X : Stand p l e R s m₀ args below meth c W locs cells slots) (hexec : p.tables.exec = Jvm.exec) (htr : e.platform.stackTraces = false) {cls : String} {names : List String} {text : String}
    (hcls : Bundle.fit cls = true) (hnames : ∀ n ∈ names, Bundle.fit n = true) (hsoe : (cls == "java/lang/StackOverflowError") = false) (hoom : (cls == "java/lang/OutOfMemoryError") = false)
    (h : ∀ a ∈ Bundle.messageArmAtoms cls names, a.before args s = true)
    (hlocs : ∀ x ∈ locs, ∀ cell, s.heap[x.base]? = some cell → cell.vm.isStatics = false)
    (htext : (text == notModelled) = false) (hlimit : ¬ (stringBytes (stringToUtf16 text)).size > e.platform.arrayLengthLimit) (hheap : ¬ (stringBytes (stringToUtf16 text)).size * componentBytes .byte > e.platform.maxHeapBytes)
    {g : JFrame} (hg : g.method = m₀) (hsize : g.locals.size = c.maxLocals)
    (hRframes : names.length + 4 < R.frames) (hRlocals : 2 * g.monitorRoom + (g.stack.map fun v => v.category).sum + 10240 ≤ R.locals) (hshort : 13 * names.length + 55 ≤ 10240)
    (hRcells : cells + 3 ≤ R.cells) (hRslots : slots + ((stringBytes (stringToUtf16 text)).size + 4 + 6) ≤ R.slots) (hlocks : meth.locks = false) :
    ∃ (S : State) (q : Addr) (ce : Cell), (∀ target, Steps p.tables e below ((S.setTop g).pushFrame (.throwing q)) target → Steps p.tables e below ((W.setTop g).pushFrame (.throwNew cls (some text) none)) target) ∧
      Stand p l e R s m₀ args below meth c S locs (cells + 3) (slots + ((stringBytes (stringToUtf16 text)).size + 4 + 6)) ∧ S.heap[q]? = some ce ∧ s.vm.findClass cls = some ce.cls ∧ ce.vm = .none := by
  have howns : e.platform.frameOwnsMonitors = true := by rw [X.admits.platform]
  have hfin : e.platform.finalization = false := by rw [X.admits.platform]
  have hpl : e.platform.magicAccessors = ({} : Platform).magicAccessors := by rw [X.admits.platform]
  have a : ∀ x, x ∈ Bundle.messageArmAtoms cls names → x.holds args s none s [] = true := fun x hx => h x hx
  obtain ⟨T, Z0, L, -, Y⟩ := ThrowableC.of_atoms (args := args) howns hfin hpl (fun x hx => h x (by simp [Bundle.messageArmAtoms, hx]))
  obtain ⟨Z, M, LZ, LM, hnZ⟩ := Init0T.ofS_atoms (args := args) hpl L Y (fun x hx => h x (by simp [Bundle.messageArmAtoms, hx]))
  obtain ⟨P1, Ps, hlen, L1, hL, hP1m, hlink1, hlink⟩ := Bundle.chainS (args := args) hpl hnZ names cls hcls hnames (fun x hx => h x (by simp [Bundle.messageArmAtoms, hx]))
  obtain ⟨Zs, LZs, hn4, hfitv, hfitc⟩ := StringT.of_atoms (args := args) (fun x hx => h x (by simp [Bundle.messageArmAtoms, hx]))
  have hfound : s.vm.findClass cls = some P1.m.cls := findClass_of_methodNamed hP1m
  obtain ⟨c1, kX, hc1, hk, hord, -, -, hn6⟩ := Cond.instantiable_spec (a (.instantiable cls 6) (by simp [Bundle.messageArmAtoms]))
  cases Option.some.inj (hc1.symm.trans hfound)
  have hinit := Cond.initialized_spec hfound hk (a (.initialized cls) (by simp [Bundle.messageArmAtoms]))
  have hctor : kX.findMethod "<init>" "(Ljava/lang/String;)V" = some P1.m.idx := findMethod_of_methodNamed hP1m hk
  have hsel0 : selectMethod e.platform s.vm P1.m.cls T.fill0 = .method T.fill0 := by
    obtain ⟨c2, r2, m2, q1, q2, q3, q4, -⟩ := Cond.selects_spec (a (.selects cls Bundle.tFill0 Bundle.tFill0) (by simp [Bundle.messageArmAtoms]))
    cases Option.some.inj (q1.symm.trans hfound)
    cases Option.some.inj (q2.symm.trans (State.methodFound?_of_named Y.fill0 (by decide)))
    cases Option.some.inj (q3.symm.trans Y.fill0)
    rw [Launch.admits_selectMethod X.admits]; exact q4
  have hselF : selectMethod e.platform s.vm P1.m.cls T.fill = .method T.fill := by
    obtain ⟨c2, r2, m2, q1, q2, q3, q4, -⟩ := Cond.selects_spec (a (.selects cls Bundle.tFill Bundle.tFill) (by simp [Bundle.messageArmAtoms]))
    cases Option.some.inj (q1.symm.trans hfound)
    cases Option.some.inj (q2.symm.trans (State.methodFound?_of_named Y.fill (by decide)))
    cases Option.some.inj (q3.symm.trans Y.fill)
    rw [Launch.admits_selectMethod X.admits]; exact q4
  obtain ⟨cellS0, hcS0, hiss⟩ := Y.statics
  obtain ⟨u0, hu0⟩ := Cond.staticRefV Y.unassigned L.unassignedStatic L.statics hcS0 hiss (a (.isRef (.static Bundle.tN "UNASSIGNED_STACK" Bundle.steD)) (by simp [Bundle.messageArmAtoms]))
  obtain ⟨sen, hsen⟩ := Cond.staticRefV Y.sentinel L.sentinelStatic L.statics hcS0 hiss (a (.isRef (.static Bundle.tN "SUPPRESSED_SENTINEL" Bundle.listD)) (by simp [Bundle.messageArmAtoms]))
  obtain ⟨ci198, i198, fB, hk198, hg198, ha198, hsB, -, hnB, htB, hffB⟩ := Cond.ownField (t := .object "java/lang/Object") Y.found L.cls (by decide +kernel) (a (.fieldLink Bundle.tN 198 Bundle.tN "backtrace" "Ljava/lang/Object;") (by simp [Bundle.messageArmAtoms])) (a (.lays Bundle.tN Bundle.tN "backtrace" "Ljava/lang/Object;") (by simp [Bundle.messageArmAtoms])) e.platform hpl
  obtain ⟨cellS, hcS', heS, -, hkeep⟩ := X.same.2.2.2.2.2 T.aS cellS0 hcS0
  have hcellS : W.heap[T.aS]? = some cellS := hcS'
  have hout' : ∀ i, (⟨T.aS, i⟩ : Loc) ∉ locs := fun i hmem => by
    have := hlocs _ hmem cellS0 hcS0
    rw [hiss] at this; cases this
  have hknownS : cellS.vm ≠ .unknown := by
    rw [heS]; intro hu
    rw [show cellS0.vm = .unknown from hu] at hiss
    cases hiss
  have hvU : cellS.slots[T.fUnassigned.slot]? = some u0.v := by rw [hkeep _ (hout' _)]; exact hu0
  have hvSen : cellS.slots[T.fSentinel.slot]? = some sen.v := by rw [hkeep _ (hout' _)]; exact hsen
  obtain ⟨iM, hffM⟩ := Y.msg
  obtain ⟨tyC, dC, hdC, hdnC⟩ := Cond.laysAt hfound hk Y.cause (a (.lays cls Bundle.tN "cause" "Ljava/lang/Throwable;") (by simp [Bundle.messageArmAtoms]))
  obtain ⟨tyS, dS, hdS, hdnS⟩ := Cond.laysAt hfound hk Y.stack (a (.lays cls Bundle.tN "stackTrace" Bundle.steD) (by simp [Bundle.messageArmAtoms]))
  obtain ⟨tyP, dP, hdP, hdnP⟩ := Cond.laysAt hfound hk Y.supp (a (.lays cls Bundle.tN "suppressedExceptions" Bundle.listD) (by simp [Bundle.messageArmAtoms]))
  obtain ⟨tyM, dM, hdM, hdnM⟩ := Cond.laysAt hfound hk hffM (a (.lays cls Bundle.tN "detailMessage" "Ljava/lang/String;") (by simp [Bundle.messageArmAtoms]))
  obtain ⟨tyB, dB, hdB, hdnB⟩ := Cond.laysAt hfound hk hffB (a (.lays cls Bundle.tN "backtrace" "Ljava/lang/Object;") (by simp [Bundle.messageArmAtoms]))
  have bC := Cond.laysApart hdB hdC hdnB hdnC (by rw [hnB, Y.causeName]; decide)
  have bS := Cond.laysApart hdB hdS hdnB hdnS (by rw [hnB, Y.stackName]; decide)
  have bP := Cond.laysApart hdB hdP hdnB hdnP (by rw [hnB, Y.suppName]; decide)
  have hbk : ((preparedCellV T.toThrowableT (freshCell P1.m.cls kX) (W.heap.size + 2) u0 sen).withEntry W.cur).slots[fB.slot]? = some .null := by
    have := fresh_default (c := P1.m.cls) tyB
    rw [htB] at this
    simpa [preparedCellV, Cell.setSlot, Cell.withEntry, Array.getElem?_setIfInBounds, bC, bS, bP, bC.symm, bS.symm, bP.symm, defaultValue] using this
  have tkC := Takes.of_laid (v := .ref (W.heap.size + 2)) hk hord tyC (by rw [Y.causeType]; rfl)
  have tkS := Takes.of_laid (v := u0.v) hk hord tyS (by rw [Y.stackType]; exact fits_refV_array _ u0)
  have tkP := Takes.of_laid (v := sen.v) hk hord tyP (by rw [Y.suppType]; exact fits_refV_object _ sen)
  have tkM := Takes.of_laid (v := .ref (W.heap.size + 1)) hk hord tyM (by rw [Y.msgType]; rfl)
  have hskip : SkipFacts T e.platform s (fun u => u) u0 ((preparedCellV T.toThrowableT (freshCell P1.m.cls kX) (W.heap.size + 2) u0 sen).withEntry W.cur) := ⟨{ ci198 := ci198, i198 := i198, fBack := fB }, ⟨hk198, hg198, ha198, hsB⟩, hbk, fun _ _ => rfl⟩
  have h0 : At W g.method c below := by rw [hg]; exact X.here
  obtain ⟨hbeyond, hfreeW⟩ := X.vmMayThrow hsize (.throwNew cls (some text) none) (fun f hf => by cases hf) rfl hRlocals
  have hfr' : W.frames.length + Ps.length + 4 < (e.platform.stackLimits W.me).1 := by have := X.framesAbove hRframes; omega
  have hwd' : (stackUse (.java g :: W.frames.tail)).2 + 13 * Ps.length + 55 ≤ (e.platform.stackLimits W.me).2 := by have := X.stackAbove hsize (K := 13 * Ps.length + 55) (by omega); omega
  have hslots : W.slotsUsed + (stringBytes (stringToUtf16 text)).size + Zs.kS.instanceTypes.size + kX.instanceTypes.size ≤ e.platform.maxSlots := by
    have := X.slotsAbove hRslots
    rw [hn4, hn6]
    omega
  obtain ⟨vm', hW', st⟩ := Steps.vmThrowsMessageColdByV p (s₀ := s) (S := W) (g := g) h0 hexec T L Z LZ M LM X.warmed (t := W.cur) rfl Zs LZs P1 L1 Ps hL hlink1 hlink hsoe hoom hfound hk hinit hord hctor
    (Launch.admits_hotImplicitExceptions X.admits) hbeyond hfreeW htext hlimit hheap (X.cellsAbove hRcells) hslots (hfitv _) (hfitc _)
    (Nn := fun u => u) heapOnly_id (fun _ _ => rfl) (fun _ => rfl) (fun u x y => setCell_twice _ _ _ _) (fun _ => Nat.le_refl _) (cN := ((preparedCellV T.toThrowableT (freshCell P1.m.cls kX) (W.heap.size + 2) u0 sen).withEntry W.cur))
    hsel0 hcellS hknownS hvU tkS (fun _ hu => hu) (fun _ hu => hu) rfl rfl rfl (by simp [preparedCellV, Cell.setSlot, Cell.withEntry]) hskip (fun _ _ hA hW _ hroom _ hrest => L.nativeOff p htr hA hW hroom hrest) hselF hvSen tkC tkP tkM Y.objLocals rfl hfr' hwd'
  rw [plainBareV_eq T.toThrowableT (W.heap.size + 2) u0 sen (.ref (W.heap.size + 1)) W.cur rfl rfl] at st
  obtain ⟨-, -, w3, w4, -, -, -⟩ := withThrown_facts e.platform W Zs text P1.m.cls kX
  have X3 := ((X.pushed (bytesOf Zs.cB (stringToUtf16 text))).pushed (stringAt Zs.cS Zs.kS Zs.fv Zs.fc (stringToUtf16 text) W.heap.size)).pushed (freshCell P1.m.cls kX)
  rw [← withString_eq] at X3
  have X4 := X3.noted hW'
  have ha : (W.heap.size + 2) < ((withThrown W Zs text P1.m.cls kX).setVm vm').heap.size := by show _ < (withThrown W Zs text P1.m.cls kX).heap.size; rw [w3]; omega
  have hcell : ((withThrown W Zs text P1.m.cls kX).setVm vm').heap[(W.heap.size + 2)]? = some (freshCell P1.m.cls kX) := w4
  have X5 := ((((X4.stored hcell T.fCause.slot (.ref (W.heap.size + 2))).storedAgain ha T.fStack.slot u0.v).storedAgain ha T.fSupp.slot sen.v).storedAgain ha T.fStack.slot u0.v).storedAgain ha T.fMsg.slot (.ref (W.heap.size + 1))
  obtain ⟨g₁, hfrM⟩ := X5.frames_eq
  have hU : ((((withThrown W Zs text P1.m.cls kX).setVm vm').setCell (W.heap.size + 2) (plainBareV T.toThrowableT (freshCell P1.m.cls kX) (W.heap.size + 2) u0 sen (.ref (W.heap.size + 1)))).setTop g).pushFrame (.throwing (W.heap.size + 2)) = (((withThrown W Zs text P1.m.cls kX).setVm vm').setCell (W.heap.size + 2) (plainBareV T.toThrowableT (freshCell P1.m.cls kX) (W.heap.size + 2) u0 sen (.ref (W.heap.size + 1)))).setFrames (.throwing (W.heap.size + 2) :: .java g :: below) := by
    rw [State.pushFrame, State.frames_setTop _ hfrM, State.setTop_of_frames _ hfrM, State.setFrames_setFrames]
  have b1 : (bytesOf Zs.cB (stringToUtf16 text)).slots.size = (stringBytes (stringToUtf16 text)).size := by
    rw [(Cell.writeAll_facts _ _).2.2]; simp [bytes0]
  have b2 : (stringAt Zs.cS Zs.kS Zs.fv Zs.fc (stringToUtf16 text) W.heap.size).slots.size = 4 := by simp [string0, Cell.setSlot, hn4]
  have b3 : (freshCell P1.m.cls kX).slots.size = 6 := by simp [hn6]
  rw [b1, b2, b3] at X5
  have e9 : slots + (stringBytes (stringToUtf16 text)).size + 4 + 6 = slots + ((stringBytes (stringToUtf16 text)).size + 4 + 6) := by omega
  rw [e9] at X5
  simp only [List.append_assoc, List.cons_append, List.nil_append] at X5
  refine ⟨((withThrown W Zs text P1.m.cls kX).setVm vm').setCell (W.heap.size + 2) (plainBareV T.toThrowableT (freshCell P1.m.cls kX) (W.heap.size + 2) u0 sen (.ref (W.heap.size + 1))), W.heap.size + 2, _, fun target ht => st _ (by rw [X.tail, ← hU]; exact ht),
    X5.forget (fun y hy => ?_), heapAt_setCell_self _ ha, hfound, rfl⟩
  simp only [List.mem_cons, List.not_mem_nil, or_false] at hy
  have hge : s.heap.size ≤ W.heap.size := X.same.2.1
  rcases hy with rfl | rfl | rfl | rfl | rfl <;> exact Nat.le_trans hge (Nat.le_add_right _ 2)
set_option maxHeartbeats 1000000 in
/-- the machine throws NullPointerException, no traces kept: from its note over the frame g to 'throwing' over the same frame (follows the proof of Stand.vmThrowsNpe, Shelf42/KT2.lean; throwsNpeColdBareVAt, Shelf42/NT91.lean, called) -/
theorem vx_npeAt {p : Program} {l : Launch} {e : Env} {R : Room} {s : State} {m₀ : MethodId} {args : Array Value} {below : List Frame} {meth : Method} {c : Code} {W : State} {locs : List Loc} {cells slots : Nat}
    (X : Stand p l e R s m₀ args below meth c W locs cells slots) (hexec : p.tables.exec = Jvm.exec) (htr : e.platform.stackTraces = false) {n : Nat}
    (h : ∀ a ∈ Bundle.npeArmAtoms n, a.before args s = true)
    (hlocs : ∀ x ∈ locs, ∀ cell, s.heap[x.base]? = some cell → cell.vm.isStatics = false)
    {g : JFrame} (hg : g.method = m₀) (hsize : g.locals.size = c.maxLocals)
    (hRframes : 7 < R.frames) (hRlocals : 2 * g.monitorRoom + (g.stack.map fun v => v.category).sum + 10240 ≤ R.locals)
    (hRcells : cells + 1 ≤ R.cells) (hRslots : slots + n ≤ R.slots) (hlocks : meth.locks = false) :
    ∃ (S : State) (q : Addr) (ce : Cell), (∀ target, Steps p.tables e below ((S.setTop g).pushFrame (.throwing q)) target → Steps p.tables e below ((W.setTop g).pushFrame (.throwNew "java/lang/NullPointerException" none none)) target) ∧
      Stand p l e R s m₀ args below meth c S locs (cells + 1) (slots + n) ∧ S.heap[q]? = some ce ∧ s.vm.findClass "java/lang/NullPointerException" = some ce.cls ∧ ce.vm = .none := by
  have howns : e.platform.frameOwnsMonitors = true := by rw [X.admits.platform]
  have hfin : e.platform.finalization = false := by rw [X.admits.platform]
  have hpl : e.platform.magicAccessors = ({} : Platform).magicAccessors := by rw [X.admits.platform]
  have hpl2 : e.platform.arrayCloneIsPublic = true := by rw [X.admits.platform]
  have a' : ∀ x, x ∈ Bundle.npeArmAtoms n → x.holds args s none s [] = true := fun x hx => h x hx
  obtain ⟨T, Z, L, LZ, Y⟩ := ThrowableC.of_atoms (args := args) howns hfin hpl (fun x hx => h x (by simp [Bundle.npeArmAtoms, hx]))
  obtain ⟨N, LN, hcN, hnNF, hordN, hffS⟩ := NpeC.of_atoms (args := args) hpl hpl2 L Y (fun x hx => h x (by simp [Bundle.npeArmAtoms, hx]))
  obtain ⟨P1, L1, hP1m, hP1s⟩ := PassC.of_atoms (args := args) (s := s) hpl (X := Bundle.nN) (Y := Bundle.rN) (by decide) (by decide) LibCode.NullPointerException.Init0.at_0 LibCode.NullPointerException.Init0.at_1 LibCode.NullPointerException.Init0.at_4 (fun x hx => h x (by simp [Bundle.npeArmAtoms, hx]))
  obtain ⟨PR, LR, hPRm, hPRs⟩ := PassC.of_atoms (args := args) (s := s) hpl (X := Bundle.rN) (Y := Bundle.eN) (by decide) (by decide) LibCode.RuntimeException.Init0.at_0 LibCode.RuntimeException.Init0.at_1 LibCode.RuntimeException.Init0.at_4 (fun x hx => h x (by simp [Bundle.npeArmAtoms, hx]))
  obtain ⟨PE, LEx, hPEm, hPEs⟩ := PassC.of_atoms (args := args) (s := s) hpl (X := Bundle.eN) (Y := Bundle.tN) (by decide) (by decide) LibCode.Exception.Init0.at_0 LibCode.Exception.Init0.at_1 LibCode.Exception.Init0.at_4 (fun x hx => h x (by simp [Bundle.npeArmAtoms, hx]))
  have hfound : s.vm.findClass Bundle.nN = some P1.m.cls := findClass_of_methodNamed hP1m
  have ecls : N.cN = P1.m.cls := Option.some.inj (hcN.symm.trans hfound)
  have hk : s.vm.classes[P1.m.cls]? = some N.kN := by rw [← ecls]; exact LN.cls
  have hinit := Cond.initialized_spec hfound hk (a' (.initialized Bundle.nN) (by simp [Bundle.npeArmAtoms]))
  have hctor : N.kN.findMethod "<init>" "()V" = some P1.m.idx := findMethod_of_methodNamed hP1m hk
  obtain ⟨c1, k1, hc1, hk1, -, -, -, hn⟩ := Cond.instantiable_spec (a' (.instantiable Bundle.nN n) (by simp [Bundle.npeArmAtoms]))
  cases Option.some.inj (hc1.symm.trans hfound)
  cases Option.some.inj (hk1.symm.trans hk)
  have hfsz : (freshCell P1.m.cls N.kN).slots.size = n := by simp [hn]
  have hlink1 : P1.sup = PR.m := Option.some.inj (hP1s.symm.trans hPRm)
  have hlinkR : PR.sup = PE.m := Option.some.inj (hPRs.symm.trans hPEm)
  have hlinkE : PE.sup = Z.m T.toThrowableT := Option.some.inj (hPEs.symm.trans Y.init0)
  have hLs : ∀ P, P ∈ [PR, PE] → P.Links0 e.platform s := fun P hP => by
    simp only [List.mem_cons, List.not_mem_nil, or_false] at hP
    rcases hP with rfl | rfl
    · exact LR
    · exact LEx
  have hsel0 : selectMethod e.platform s.vm P1.m.cls T.fill0 = .method T.fill0 := by
    obtain ⟨c2, r2, m2, q1, q2, q3, q4, -⟩ := Cond.selects_spec (a' (.selects Bundle.nN Bundle.tFill0 Bundle.tFill0) (by simp [Bundle.npeArmAtoms]))
    cases Option.some.inj (q1.symm.trans hfound)
    cases Option.some.inj (q2.symm.trans (State.methodFound?_of_named Y.fill0 (by decide)))
    cases Option.some.inj (q3.symm.trans Y.fill0)
    rw [Launch.admits_selectMethod X.admits]; exact q4
  have hselF : selectMethod e.platform s.vm P1.m.cls T.fill = .method N.fill := by
    obtain ⟨c2, r2, m2, q1, q2, q3, q4, -⟩ := Cond.selects_spec (a' (.selects Bundle.nN Bundle.tFill Bundle.nFill) (by simp [Bundle.npeArmAtoms]))
    cases Option.some.inj (q1.symm.trans hfound)
    cases Option.some.inj (q2.symm.trans (State.methodFound?_of_named Y.fill (by decide)))
    cases Option.some.inj (q3.symm.trans hnNF)
    rw [Launch.admits_selectMethod X.admits]; exact q4
  obtain ⟨cellS0, hcS0, hiss⟩ := Y.statics
  obtain ⟨u0, hu0⟩ := Cond.staticRefV Y.unassigned L.unassignedStatic L.statics hcS0 hiss (a' (.isRef (.static Bundle.tN "UNASSIGNED_STACK" Bundle.steD)) (by simp [Bundle.npeArmAtoms]))
  obtain ⟨sen, hsen⟩ := Cond.staticRefV Y.sentinel L.sentinelStatic L.statics hcS0 hiss (a' (.isRef (.static Bundle.tN "SUPPRESSED_SENTINEL" Bundle.listD)) (by simp [Bundle.npeArmAtoms]))
  obtain ⟨ci198, i198, fB, hk198, hg198, ha198, hsB, -, hnB, htB, hffB⟩ := Cond.ownField (t := .object "java/lang/Object") Y.found L.cls (by decide +kernel) (a' (.fieldLink Bundle.tN 198 Bundle.tN "backtrace" Bundle.objD) (by simp [Bundle.npeArmAtoms])) (a' (.lays Bundle.tN Bundle.tN "backtrace" Bundle.objD) (by simp [Bundle.npeArmAtoms])) e.platform hpl
  obtain ⟨cellS, hcS', heS, -, hkeep⟩ := X.same.2.2.2.2.2 T.aS cellS0 hcS0
  have hcellS : W.heap[T.aS]? = some cellS := hcS'
  have hout' : ∀ i, (⟨T.aS, i⟩ : Loc) ∉ locs := fun i hmem => by
    have := hlocs _ hmem cellS0 hcS0
    rw [hiss] at this; cases this
  have hknownS : cellS.vm ≠ .unknown := by
    rw [heS]; intro hu
    rw [show cellS0.vm = .unknown from hu] at hiss
    cases hiss
  have hvU : cellS.slots[T.fUnassigned.slot]? = some u0.v := by rw [hkeep _ (hout' _)]; exact hu0
  have hvSen : cellS.slots[T.fSentinel.slot]? = some sen.v := by rw [hkeep _ (hout' _)]; exact hsen
  obtain ⟨tyC, dC, hdC, hdnC⟩ := Cond.laysAt hfound hk Y.cause (a' (.lays Bundle.nN Bundle.tN "cause" "Ljava/lang/Throwable;") (by simp [Bundle.npeArmAtoms]))
  obtain ⟨tyS, dS, hdS, hdnS⟩ := Cond.laysAt hfound hk Y.stack (a' (.lays Bundle.nN Bundle.tN "stackTrace" Bundle.steD) (by simp [Bundle.npeArmAtoms]))
  obtain ⟨tyP, dP, hdP, hdnP⟩ := Cond.laysAt hfound hk Y.supp (a' (.lays Bundle.nN Bundle.tN "suppressedExceptions" Bundle.listD) (by simp [Bundle.npeArmAtoms]))
  obtain ⟨tyX, dX, hdX, hdnX⟩ := Cond.laysAt hfound hk hffS (a' (.lays Bundle.nN Bundle.nN "extendedMessageState" "I") (by simp [Bundle.npeArmAtoms, Bundle.npeAtoms]))
  obtain ⟨hnX, htX⟩ := State.fieldFound?_type hffS (t := .int) (by decide +kernel)
  have xC := Cond.laysApart hdC hdX hdnC hdnX (by rw [hnX, Y.causeName]; decide)
  have xS := Cond.laysApart hdS hdX hdnS hdnX (by rw [hnX, Y.stackName]; decide)
  have xP := Cond.laysApart hdP hdX hdnP hdnX (by rw [hnX, Y.suppName]; decide)
  have hv0 : (freshCell P1.m.cls N.kN).slots[N.fState.slot]? = some (.int 0) := by
    have := fresh_default (c := P1.m.cls) tyX
    rw [htX] at this; exact this
  obtain ⟨tyB, dB, hdB, hdnB⟩ := Cond.laysAt hfound hk hffB (a' (.lays Bundle.nN Bundle.tN "backtrace" Bundle.objD) (by simp [Bundle.npeArmAtoms]))
  have bC := Cond.laysApart hdB hdC hdnB hdnC (by rw [hnB, Y.causeName]; decide)
  have bS := Cond.laysApart hdB hdS hdnB hdnS (by rw [hnB, Y.stackName]; decide)
  have bP := Cond.laysApart hdB hdP hdnB hdnP (by rw [hnB, Y.suppName]; decide)
  have bX := Cond.laysApart hdB hdX hdnB hdnX (by rw [hnB, hnX]; decide)
  have hbk : ((npeCell N.toNpeT (preparedCellV T.toThrowableT (freshCell P1.m.cls N.kN) W.heap.size u0 sen) W.cur).withEntry W.cur).slots[fB.slot]? = some .null := by
    have := fresh_default (c := P1.m.cls) tyB
    rw [htB] at this
    simpa [npeCell, preparedCellV, Cell.setSlot, Cell.withEntry, Array.getElem?_setIfInBounds, bC, bS, bP, bX, bC.symm, bS.symm, bP.symm, bX.symm, defaultValue] using this
  have tkC := Takes.of_laid (v := .ref W.heap.size) hk hordN tyC (by rw [Y.causeType]; rfl)
  have tkS := Takes.of_laid (v := u0.v) hk hordN tyS (by rw [Y.stackType]; exact fits_refV_array _ u0)
  have tkP := Takes.of_laid (v := sen.v) hk hordN tyP (by rw [Y.suppType]; exact fits_refV_object _ sen)
  have tkX := Takes.of_laid (v := .int 1) hk hordN tyX (by rw [htX]; rfl)
  have hskip : SkipFacts T e.platform s (fun u => u) u0 ((npeCell N.toNpeT (preparedCellV T.toThrowableT (freshCell P1.m.cls N.kN) W.heap.size u0 sen) W.cur).withEntry W.cur) := ⟨{ ci198 := ci198, i198 := i198, fBack := fB }, ⟨hk198, hg198, ha198, hsB⟩, hbk, fun _ _ => rfl⟩
  obtain ⟨vm', X3, st, -⟩ := X.throwsNpeColdBareVAt hexec hg hsize T L Z LZ N LN P1 L1 [PR, PE] hLs hlink1 ⟨hlinkR, hlinkE, trivial⟩ hfound hk hinit hordN hctor hsel0 hselF hcellS hknownS hvU hvSen
    hv0 xC xS xP tkC tkS tkP tkX Y.objLocals hskip (fun _ _ hA hW _ hroom _ hrest => L.nativeOff p htr hA hW hroom hrest) (by simpa using hRframes) hRlocals (by simp) hRcells (by rw [hn]; exact hRslots)
  have hlt : W.heap.size < ((W.pushCell (freshCell P1.m.cls N.kN)).setVm vm').heap.size := by
    show W.heap.size < (W.pushCell (freshCell P1.m.cls N.kN)).heap.size
    rw [State.heap_size_pushCell]; omega
  rw [hfsz] at X3
  obtain ⟨g₁, hfrM⟩ := X3.frames_eq
  have hU : ((((W.pushCell (freshCell P1.m.cls N.kN)).setVm vm').setCell W.heap.size (npeBareV T.toThrowableT N.toNpeT (freshCell P1.m.cls N.kN) W.heap.size u0 sen)).setTop g).pushFrame (.throwing W.heap.size) = (((W.pushCell (freshCell P1.m.cls N.kN)).setVm vm').setCell W.heap.size (npeBareV T.toThrowableT N.toNpeT (freshCell P1.m.cls N.kN) W.heap.size u0 sen)).setFrames (.throwing W.heap.size :: .java g :: below) := by
    rw [State.pushFrame, State.frames_setTop _ hfrM, State.setTop_of_frames _ hfrM, State.setFrames_setFrames]
  refine ⟨_, W.heap.size, _, fun target ht => st.trans (by rw [← hU]; exact ht), X3.forget (fun y hy => ?_), heapAt_setCell_self _ hlt, hfound, rfl⟩
  simp only [List.mem_cons, List.not_mem_nil, or_false] at hy
  have hge : s.heap.size ≤ W.heap.size := X.same.2.1
  rcases hy with rfl | rfl | rfl | rfl | rfl <;> exact hge
/-- the words of a machine's NullPointerException, but the four that speak of the heap -/
def vx_atN (n : Nat) : List Cond := (Bundle.npeArmAtoms n).filter vx_no
/-- the words of a machine's throw with a message, but the four that speak of the heap -/
def vx_atM (X : String) (names : List String) : List Cond := (Bundle.messageArmAtoms X names).filter vx_no
section
variable {p : Program} {l : Launch} {e : Env} {R : Room} {s : State} {m : MethodId} {args : Array Value} {below : List Frame} {meth : Method} {c : Code} {H : Heap} {locs : List Loc} {cells slots : Nat}
/-- a frame seen from a rebased start, seen from the first start again -/
theorem vx_back9 {T S : State} {R' : Room} {k n : Nat} (X : Stand p l e R s m args below meth c T locs cells slots) (Y : Stand p l e R' ((T.setVm s.vm).setFrames (.invoking m args :: below)) m args below meth c T [] 0 0) (Z : Stand p l e R' ((T.setVm s.vm).setFrames (.invoking m args :: below)) m args below meth c S [] k n) :
    Stand p l e R s m args below meth c S locs (cells + k) (slots + n) := by
  have hW0 : s.WarmedH ((T.setVm s.vm).setFrames (.invoking m args :: below)).vm := State.WarmedH.refl s
  refine { admits := X.admits, cas := X.cas, clock := X.clock, frames := X.frames, room := X.room, hears := X.hears, method := X.method, code := X.code, here := Z.here, tail := Z.tail, warmed := State.WarmedH.trans hW0 Z.warmed, limits := Z.limits.trans (Y.limits.symm.trans X.limits), bytes := Z.bytes.trans (Y.bytes.symm.trans X.bytes), same := ?_ }
  obtain ⟨e1, e2⟩ := Z.same
  rw [State.setFrames_setFrames] at e1
  have h2 : (T.setVm s.vm).sameButNew (S.setVm s.vm) [] k n := ⟨e1, e2⟩
  have h3 := X.same.trans h2
  rw [List.append_nil] at h3
  exact h3
/-- from the machine's note that E is thrown here with this text -/
def vx_Note (p : Program) (l : Launch) (e : Env) (R : Room) (s : State) (m : MethodId) (args : Array Value) (below : List Frame) (meth : Method) (c : Code) (H : Heap) (locs : List Loc) (cells slots : Nat) (Q : State → Prop) (g : JFrame) (E text : String) : Prop :=
  ∀ T : State, T.heap = H → Stand p l e R s m args below meth c T locs cells slots → ∃ t, Steps p.tables e below ((T.setTop g).pushFrame (.throwNew E (some text) none)) t ∧ Q t
theorem vx_vm {pc : Nat} {ls : Array Slot} {rest : List Value} {Q : State → Prop} (hexec : p.tables.exec = Jvm.exec) (hl : l.stackTraces = false) {cls text : String} {names : List String} {nb : Nat} {A : Nat → Prop}
    (hcls : Bundle.fit cls = true) (hnames : ∀ n ∈ names, Bundle.fit n = true) (hsoe : (cls == "java/lang/StackOverflowError") = false) (hoom : (cls == "java/lang/OutOfMemoryError") = false)
    (hat : ∀ w ∈ vx_atM cls names, w.before args s = true) (hgood : ∀ w ∈ vx_atM cls names, vx_ot w = true)
    (hU : vx_Zq Bundle.tN "UNASSIGNED_STACK" Bundle.steD A s s.heap) (hN : vx_Zq Bundle.tN "SUPPRESSED_SENTINEL" Bundle.listD A s s.heap) (hS : va_S A s.heap H locs) (hsize : ls.size = c.maxLocals)
    (htext : (text == notModelled) = false) (hnb : (stringBytes (stringToUtf16 text)).size ≤ nb) (hnb1 : nb ≤ 1000)
    (hRframes : names.length + 4 < R.frames) (hRlocals : (rest.map fun v => v.category).sum + 10240 ≤ R.locals) (hshort : 13 * names.length + 55 ≤ 10240) (hRcells : cells + 3 ≤ R.cells) (hRslots : slots + (nb + 10) ≤ R.slots) (hlocks : meth.locks = false)
    (k : ∀ (H1 : Heap) (q9 : Addr) (ce : Cell), H.size ≤ H1.size → (∀ q : Nat, q < H.size → H1[q]? = H[q]?) → va_S A s.heap H1 locs → H1[q9]? = some ce → ce.vm = .none → s.vm.findClass cls = some ce.cls → vx_W p l e R s m args below meth c H1 locs (cells + 3) (slots + (nb + 10)) Q (F0 m pc ls rest) q9) :
    vx_Note p l e R s m args below meth c H locs cells slots Q (F0 m pc ls rest) cls text := by
  intro T hT X
  have htr : e.platform.stackTraces = false := (show e.platform.stackTraces = l.stackTraces by rw [X.admits.platform]).trans hl
  have Y := vx_rebase X (R' := { frames := R.frames, locals := R.locals, cells := 3, slots := nb + 10 }) (Nat.le_refl _) (Nat.le_refl _) hRcells hRslots
  have hhp : ((T.setVm s.vm).setFrames (.invoking m args :: below)).heap = H := hT
  have hW0 : s.WarmedH ((T.setVm s.vm).setFrames (.invoking m args :: below)).vm := State.WarmedH.refl s
  have hat' : ∀ w ∈ vx_atM cls names, w.before args ((T.setVm s.vm).setFrames (.invoking m args :: below)) = true := fun w hw => vx_ot_at hW0 rfl (hgood w hw) (hat w hw)
  have hU' : vx_Zq Bundle.tN "UNASSIGNED_STACK" Bundle.steD A ((T.setVm s.vm).setFrames (.invoking m args :: below)) ((T.setVm s.vm).setFrames (.invoking m args :: below)).heap := by rw [hhp]; exact vx_Zq.moved hW0.alike (hU.kept hS.2.1)
  have hN' : vx_Zq Bundle.tN "SUPPRESSED_SENTINEL" Bundle.listD A ((T.setVm s.vm).setFrames (.invoking m args :: below)) ((T.setVm s.vm).setFrames (.invoking m args :: below)).heap := by rw [hhp]; exact vx_Zq.moved hW0.alike (hN.kept hS.2.1)
  obtain ⟨S, q, ce, st, Z, hce, hcl', hv⟩ := vx_vmAt Y hexec htr (cls := cls) (names := names) (text := text) hcls hnames hsoe hoom (vx_own hat' (vx_isRefq hU'.1) (vx_isRefq hN'.1) hU'.2.word hN'.2.word) (fun x hx => nomatch hx) htext
    (by rw [Launch.admits_arrayLengthLimit X.admits]; omega) (by rw [Launch.admits_maxHeapBytes X.admits]; simp only [componentBytes]; omega)
    (g := F0 m pc ls rest) rfl hsize hRframes (by show 2 * 0 + (rest.map fun v => v.category).sum + 10240 ≤ R.locals; omega) hshort (by show 0 + 3 ≤ 3; omega) (by show 0 + (_ + 4 + 6) ≤ nb + 10; omega) hlocks
  obtain ⟨f1, f2⟩ := vx_frame Z.same
  have f1' : H.size ≤ S.heap.size := by rw [← hT]; exact f1
  have f2' : ∀ q : Nat, q < H.size → S.heap[q]? = H[q]? := fun q hq => by
    rw [← hT]
    exact f2 q (by rw [← hT] at hq; exact hq) (fun z hz => nomatch hz)
  have X5 := vx_back9 X Y Z
  have X6 : Stand p l e R s m args below meth c S locs (cells + 3) (slots + (nb + 10)) := { X5 with same := X5.same.mono (by omega) (by omega) }
  obtain ⟨t, a1, b1⟩ := k S.heap q ce f1' f2' ⟨Nat.le_trans hS.1 f1', fun q h1 h2 => (f2' q (Nat.lt_of_lt_of_le h1 hS.1)).trans (hS.2.1 q h1 h2), hS.2.2⟩ hce hv hcl' S rfl X6
  exact ⟨t, st t a1, b1⟩
/-- from the machine's note that NullPointerException is thrown here -/
def vx_NoteN (p : Program) (l : Launch) (e : Env) (R : Room) (s : State) (m : MethodId) (args : Array Value) (below : List Frame) (meth : Method) (c : Code) (H : Heap) (locs : List Loc) (cells slots : Nat) (Q : State → Prop) (g : JFrame) : Prop :=
  ∀ T : State, T.heap = H → Stand p l e R s m args below meth c T locs cells slots → ∃ t, Steps p.tables e below ((T.setTop g).pushFrame (.throwNew "java/lang/NullPointerException" none none)) t ∧ Q t
theorem vx_npe {pc : Nat} {ls : Array Slot} {rest : List Value} {Q : State → Prop} (hexec : p.tables.exec = Jvm.exec) (hl : l.stackTraces = false) {nb : Nat} {A : Nat → Prop}
    (hat : ∀ w ∈ vx_atN nb, w.before args s = true) (hgood : ∀ w ∈ vx_atN nb, vx_ot w = true)
    (hU : vx_Zq Bundle.tN "UNASSIGNED_STACK" Bundle.steD A s s.heap) (hN : vx_Zq Bundle.tN "SUPPRESSED_SENTINEL" Bundle.listD A s s.heap) (hS : va_S A s.heap H locs) (hsize : ls.size = c.maxLocals)
    (hRframes : 7 < R.frames) (hRlocals : (rest.map fun v => v.category).sum + 10240 ≤ R.locals) (hRcells : cells + 1 ≤ R.cells) (hRslots : slots + nb ≤ R.slots) (hlocks : meth.locks = false)
    (k : ∀ (H1 : Heap) (q9 : Addr) (ce : Cell), H.size ≤ H1.size → (∀ q : Nat, q < H.size → H1[q]? = H[q]?) → va_S A s.heap H1 locs → H1[q9]? = some ce → ce.vm = .none → s.vm.findClass "java/lang/NullPointerException" = some ce.cls → vx_W p l e R s m args below meth c H1 locs (cells + 1) (slots + nb) Q (F0 m pc ls rest) q9) :
    vx_NoteN p l e R s m args below meth c H locs cells slots Q (F0 m pc ls rest) := by
  intro T hT X
  have htr : e.platform.stackTraces = false := (show e.platform.stackTraces = l.stackTraces by rw [X.admits.platform]).trans hl
  have Y := vx_rebase X (R' := { frames := R.frames, locals := R.locals, cells := 1, slots := nb }) (Nat.le_refl _) (Nat.le_refl _) hRcells hRslots
  have hhp : ((T.setVm s.vm).setFrames (.invoking m args :: below)).heap = H := hT
  have hW0 : s.WarmedH ((T.setVm s.vm).setFrames (.invoking m args :: below)).vm := State.WarmedH.refl s
  have hat' : ∀ w ∈ vx_atN nb, w.before args ((T.setVm s.vm).setFrames (.invoking m args :: below)) = true := fun w hw => vx_ot_at hW0 rfl (hgood w hw) (hat w hw)
  have hU' : vx_Zq Bundle.tN "UNASSIGNED_STACK" Bundle.steD A ((T.setVm s.vm).setFrames (.invoking m args :: below)) ((T.setVm s.vm).setFrames (.invoking m args :: below)).heap := by rw [hhp]; exact vx_Zq.moved hW0.alike (hU.kept hS.2.1)
  have hN' : vx_Zq Bundle.tN "SUPPRESSED_SENTINEL" Bundle.listD A ((T.setVm s.vm).setFrames (.invoking m args :: below)) ((T.setVm s.vm).setFrames (.invoking m args :: below)).heap := by rw [hhp]; exact vx_Zq.moved hW0.alike (hN.kept hS.2.1)
  obtain ⟨S, q, ce, st, Z, hce, hcl', hv⟩ := vx_npeAt Y hexec htr (n := nb) (vx_own hat' (vx_isRefq hU'.1) (vx_isRefq hN'.1) hU'.2.word hN'.2.word) (fun x hx => nomatch hx)
    (g := F0 m pc ls rest) rfl hsize hRframes (by show 2 * 0 + (rest.map fun v => v.category).sum + 10240 ≤ R.locals; omega) (by show 0 + 1 ≤ 1; omega) (by show 0 + nb ≤ nb; omega) hlocks
  obtain ⟨f1, f2⟩ := vx_frame Z.same
  have f1' : H.size ≤ S.heap.size := by rw [← hT]; exact f1
  have f2' : ∀ q : Nat, q < H.size → S.heap[q]? = H[q]? := fun q hq => by
    rw [← hT]
    exact f2 q (by rw [← hT] at hq; exact hq) (fun z hz => nomatch hz)
  have X5 := vx_back9 X Y Z
  have X6 : Stand p l e R s m args below meth c S locs (cells + 1) (slots + nb) := { X5 with same := X5.same.mono (by omega) (by omega) }
  obtain ⟨t, a1, b1⟩ := k S.heap q ce f1' f2' ⟨Nat.le_trans hS.1 f1', fun q h1 h2 => (f2' q (Nat.lt_of_lt_of_le h1 hS.1)).trans (hS.2.1 q h1 h2), hS.2.2⟩ hce hv hcl' S rfl X6
  exact ⟨t, st t a1, b1⟩
variable {Q : State → Prop} {cc : ByteArray} {pc : Nat} {ls : Array Slot} {rest : List Value}
theorem vx_idivZ (hexec : p.tables.exec = Jvm.exec) (hb : c.code = cc) {a b : Int32} (h0 : b = 0) (d : decode cc pc = .ok (.idiv, 1)) (k : vx_Note p l e R s m args below meth c H locs cells slots Q (F0 m pc ls rest) "java/lang/ArithmeticException" "/ by zero") :
    W p l e R s m args below meth c H locs cells slots Q (F0 m pc ls (.int b :: .int a :: rest)) := by
  intro T hT X
  obtain ⟨t, st, q⟩ := k T hT X
  exact ⟨t, X.idivZero hexec (g := F0 m pc ls (.int b :: .int a :: rest)) rfl (a := a) (rest := rest) (by rw [h0]) (by rw [hb]; exact d) t st, q⟩
theorem vx_iremZ (hexec : p.tables.exec = Jvm.exec) (hb : c.code = cc) {a b : Int32} (h0 : b = 0) (d : decode cc pc = .ok (.irem, 1)) (k : vx_Note p l e R s m args below meth c H locs cells slots Q (F0 m pc ls rest) "java/lang/ArithmeticException" "/ by zero") :
    W p l e R s m args below meth c H locs cells slots Q (F0 m pc ls (.int b :: .int a :: rest)) := by
  intro T hT X
  obtain ⟨t, st, q⟩ := k T hT X
  exact ⟨t, X.iremZero hexec (g := F0 m pc ls (.int b :: .int a :: rest)) rfl (a := a) (rest := rest) (by rw [h0]) (by rw [hb]; exact d) t st, q⟩
theorem vx_ldivZ (hexec : p.tables.exec = Jvm.exec) (hb : c.code = cc) {a b : Int64} (h0 : b = 0) (d : decode cc pc = .ok (.ldiv, 1)) (k : vx_Note p l e R s m args below meth c H locs cells slots Q (F0 m pc ls rest) "java/lang/ArithmeticException" "/ by zero") :
    W p l e R s m args below meth c H locs cells slots Q (F0 m pc ls (.long b :: .long a :: rest)) := by
  intro T hT X
  obtain ⟨t, st, q⟩ := k T hT X
  exact ⟨t, X.ldivZero hexec (g := F0 m pc ls (.long b :: .long a :: rest)) rfl (a := a) (rest := rest) (by rw [h0]) (by rw [hb]; exact d) t st, q⟩
theorem vx_lremZ (hexec : p.tables.exec = Jvm.exec) (hb : c.code = cc) {a b : Int64} (h0 : b = 0) (d : decode cc pc = .ok (.lrem, 1)) (k : vx_Note p l e R s m args below meth c H locs cells slots Q (F0 m pc ls rest) "java/lang/ArithmeticException" "/ by zero") :
    W p l e R s m args below meth c H locs cells slots Q (F0 m pc ls (.long b :: .long a :: rest)) := by
  intro T hT X
  obtain ⟨t, st, q⟩ := k T hT X
  exact ⟨t, X.lremZero hexec (g := F0 m pc ls (.long b :: .long a :: rest)) rfl (a := a) (rest := rest) (by rw [h0]) (by rw [hb]; exact d) t st, q⟩
theorem vx_ialdZ {D : va_G} {cl : List vw_C} {ws : va_W} {tys : List (ClassId × FieldType)} {a : Nat} (hexec : p.tables.exec = Jvm.exec) (hb : c.code = cc) (hK : va_K D cl tys s) (hP : va_P D cl ws H) (q0 t0 : Nat) {cA : ClassId} {n : Nat} {f : Nat → Int32} (ha : ws[q0]? = some (a, .inl (cA, n, .inl f))) (ht : tys[t0]? = some (cA, .int)) {i : Int32} (hout : ¬ vp_in i n) (hdg : decode cc pc = .ok (.iaload, 1))
    (k : ∀ tx : String, tx = (toString "Index " ++ toString i ++ toString " out of bounds for length " ++ toString n : String) → vx_Note p l e R s m args below meth c H locs cells slots Q (F0 m pc ls rest) "java/lang/ArrayIndexOutOfBoundsException" tx) : W p l e R s m args below meth c H locs cells slots Q (F0 m pc ls (.int i :: .ref a :: rest)) := by
  intro T hT X
  obtain ⟨t, st, q⟩ := k _ rfl T hT X
  refine ⟨t, ?_, q⟩
  have h1 := X.ialoadOut hexec (by rw [hT]; exact hP q0 _ ha) ((hK.2 t0 _ ht).1 n (fun j => .int (f j))) (j := i) (by show (i < 0 ∨ (arrV _ _ _).slots.size ≤ _); rw [arrV_size]; exact Classical.byContradiction hout) (g := F0 m pc ls (.int i :: .ref a :: rest)) rfl (rest := rest) rfl (by rw [hb]; exact hdg) t
  simp only [arrV_size] at h1
  exact h1 st
theorem vx_iastZ {D : va_G} {cl : List vw_C} {ws : va_W} {tys : List (ClassId × FieldType)} {a : Nat} (hexec : p.tables.exec = Jvm.exec) (hb : c.code = cc) (hK : va_K D cl tys s) (hP : va_P D cl ws H) (q0 t0 : Nat) {cA : ClassId} {n : Nat} {f : Nat → Int32} (ha : ws[q0]? = some (a, .inl (cA, n, .inl f))) (ht : tys[t0]? = some (cA, .int)) {i : Int32} {x : Int32} (hout : ¬ vp_in i n) (hdg : decode cc pc = .ok (.iastore, 1))
    (k : ∀ tx : String, tx = (toString "Index " ++ toString i ++ toString " out of bounds for length " ++ toString n : String) → vx_Note p l e R s m args below meth c H locs cells slots Q (F0 m pc ls rest) "java/lang/ArrayIndexOutOfBoundsException" tx) : W p l e R s m args below meth c H locs cells slots Q (F0 m pc ls (.int x :: .int i :: .ref a :: rest)) := by
  intro T hT X
  obtain ⟨t, st, q⟩ := k _ rfl T hT X
  refine ⟨t, ?_, q⟩
  have h1 := X.iastoreOut hexec (by rw [hT]; exact hP q0 _ ha) ((hK.2 t0 _ ht).1 n (fun j => .int (f j))) (j := i) (by show (i < 0 ∨ (arrV _ _ _).slots.size ≤ _); rw [arrV_size]; exact Classical.byContradiction hout) (g := F0 m pc ls (.int x :: .int i :: .ref a :: rest)) rfl (rest := rest) rfl (by rw [hb]; exact hdg) t
  simp only [arrV_size] at h1
  exact h1 st
theorem vx_baldZ {D : va_G} {cl : List vw_C} {ws : va_W} {tys : List (ClassId × FieldType)} {a : Nat} (hexec : p.tables.exec = Jvm.exec) (hb : c.code = cc) (hK : va_K D cl tys s) (hP : va_P D cl ws H) (q0 t0 : Nat) {cA : ClassId} {n : Nat} {f : Nat → Int32} (ha : ws[q0]? = some (a, .inl (cA, n, .inl f))) (ht : tys[t0]? = some (cA, .byte)) {i : Int32} (hout : ¬ vp_in i n) (hdg : decode cc pc = .ok (.baload, 1))
    (k : ∀ tx : String, tx = (toString "Index " ++ toString i ++ toString " out of bounds for length " ++ toString n : String) → vx_Note p l e R s m args below meth c H locs cells slots Q (F0 m pc ls rest) "java/lang/ArrayIndexOutOfBoundsException" tx) : W p l e R s m args below meth c H locs cells slots Q (F0 m pc ls (.int i :: .ref a :: rest)) := by
  intro T hT X
  obtain ⟨t, st, q⟩ := k _ rfl T hT X
  refine ⟨t, ?_, q⟩
  have h1 := X.baloadOut hexec (by rw [hT]; exact hP q0 _ ha) ((hK.2 t0 _ ht).1 n (fun j => .int (f j))) (j := i) (by show (i < 0 ∨ (arrV _ _ _).slots.size ≤ _); rw [arrV_size]; exact Classical.byContradiction hout) (g := F0 m pc ls (.int i :: .ref a :: rest)) rfl (rest := rest) rfl (by rw [hb]; exact hdg) t
  simp only [arrV_size] at h1
  exact h1 st
theorem vx_bastZ {D : va_G} {cl : List vw_C} {ws : va_W} {tys : List (ClassId × FieldType)} {a : Nat} (hexec : p.tables.exec = Jvm.exec) (hb : c.code = cc) (hK : va_K D cl tys s) (hP : va_P D cl ws H) (q0 t0 : Nat) {cA : ClassId} {n : Nat} {f : Nat → Int32} (ha : ws[q0]? = some (a, .inl (cA, n, .inl f))) (ht : tys[t0]? = some (cA, .byte)) {i : Int32} {x : Int32} (hout : ¬ vp_in i n) (hdg : decode cc pc = .ok (.bastore, 1))
    (k : ∀ tx : String, tx = (toString "Index " ++ toString i ++ toString " out of bounds for length " ++ toString n : String) → vx_Note p l e R s m args below meth c H locs cells slots Q (F0 m pc ls rest) "java/lang/ArrayIndexOutOfBoundsException" tx) : W p l e R s m args below meth c H locs cells slots Q (F0 m pc ls (.int x :: .int i :: .ref a :: rest)) := by
  intro T hT X
  obtain ⟨t, st, q⟩ := k _ rfl T hT X
  refine ⟨t, ?_, q⟩
  have h1 := X.bastoreOut hexec (by rw [hT]; exact hP q0 _ ha) ((hK.2 t0 _ ht).1 n (fun j => .int (f j))) (j := i) (by show (i < 0 ∨ (arrV _ _ _).slots.size ≤ _); rw [arrV_size]; exact Classical.byContradiction hout) (g := F0 m pc ls (.int x :: .int i :: .ref a :: rest)) rfl (rest := rest) rfl (by rw [hb]; exact hdg) t
  simp only [arrV_size] at h1
  exact h1 st
theorem vx_zaldZ {D : va_G} {cl : List vw_C} {ws : va_W} {tys : List (ClassId × FieldType)} {a : Nat} (hexec : p.tables.exec = Jvm.exec) (hb : c.code = cc) (hK : va_K D cl tys s) (hP : va_P D cl ws H) (q0 t0 : Nat) {cA : ClassId} {n : Nat} {f : Nat → Int32} (ha : ws[q0]? = some (a, .inl (cA, n, .inl f))) (ht : tys[t0]? = some (cA, .boolean)) {i : Int32} (hout : ¬ vp_in i n) (hdg : decode cc pc = .ok (.baload, 1))
    (k : ∀ tx : String, tx = (toString "Index " ++ toString i ++ toString " out of bounds for length " ++ toString n : String) → vx_Note p l e R s m args below meth c H locs cells slots Q (F0 m pc ls rest) "java/lang/ArrayIndexOutOfBoundsException" tx) : W p l e R s m args below meth c H locs cells slots Q (F0 m pc ls (.int i :: .ref a :: rest)) := by
  intro T hT X
  obtain ⟨t, st, q⟩ := k _ rfl T hT X
  refine ⟨t, ?_, q⟩
  have h1 := X.baloadOut hexec (by rw [hT]; exact hP q0 _ ha) ((hK.2 t0 _ ht).1 n (fun j => .int (f j))) (j := i) (by show (i < 0 ∨ (arrV _ _ _).slots.size ≤ _); rw [arrV_size]; exact Classical.byContradiction hout) (g := F0 m pc ls (.int i :: .ref a :: rest)) rfl (rest := rest) rfl (by rw [hb]; exact hdg) t
  simp only [arrV_size] at h1
  exact h1 st
theorem vx_zastZ {D : va_G} {cl : List vw_C} {ws : va_W} {tys : List (ClassId × FieldType)} {a : Nat} (hexec : p.tables.exec = Jvm.exec) (hb : c.code = cc) (hK : va_K D cl tys s) (hP : va_P D cl ws H) (q0 t0 : Nat) {cA : ClassId} {n : Nat} {f : Nat → Int32} (ha : ws[q0]? = some (a, .inl (cA, n, .inl f))) (ht : tys[t0]? = some (cA, .boolean)) {i : Int32} {x : Int32} (hout : ¬ vp_in i n) (hdg : decode cc pc = .ok (.bastore, 1))
    (k : ∀ tx : String, tx = (toString "Index " ++ toString i ++ toString " out of bounds for length " ++ toString n : String) → vx_Note p l e R s m args below meth c H locs cells slots Q (F0 m pc ls rest) "java/lang/ArrayIndexOutOfBoundsException" tx) : W p l e R s m args below meth c H locs cells slots Q (F0 m pc ls (.int x :: .int i :: .ref a :: rest)) := by
  intro T hT X
  obtain ⟨t, st, q⟩ := k _ rfl T hT X
  refine ⟨t, ?_, q⟩
  have h1 := X.bastoreOut hexec (by rw [hT]; exact hP q0 _ ha) ((hK.2 t0 _ ht).1 n (fun j => .int (f j))) (j := i) (by show (i < 0 ∨ (arrV _ _ _).slots.size ≤ _); rw [arrV_size]; exact Classical.byContradiction hout) (g := F0 m pc ls (.int x :: .int i :: .ref a :: rest)) rfl (rest := rest) rfl (by rw [hb]; exact hdg) t
  simp only [arrV_size] at h1
  exact h1 st
theorem vx_caldZ {D : va_G} {cl : List vw_C} {ws : va_W} {tys : List (ClassId × FieldType)} {a : Nat} (hexec : p.tables.exec = Jvm.exec) (hb : c.code = cc) (hK : va_K D cl tys s) (hP : va_P D cl ws H) (q0 t0 : Nat) {cA : ClassId} {n : Nat} {f : Nat → Int32} (ha : ws[q0]? = some (a, .inl (cA, n, .inl f))) (ht : tys[t0]? = some (cA, .char)) {i : Int32} (hout : ¬ vp_in i n) (hdg : decode cc pc = .ok (.caload, 1))
    (k : ∀ tx : String, tx = (toString "Index " ++ toString i ++ toString " out of bounds for length " ++ toString n : String) → vx_Note p l e R s m args below meth c H locs cells slots Q (F0 m pc ls rest) "java/lang/ArrayIndexOutOfBoundsException" tx) : W p l e R s m args below meth c H locs cells slots Q (F0 m pc ls (.int i :: .ref a :: rest)) := by
  intro T hT X
  obtain ⟨t, st, q⟩ := k _ rfl T hT X
  refine ⟨t, ?_, q⟩
  have h1 := X.caloadOut hexec (by rw [hT]; exact hP q0 _ ha) ((hK.2 t0 _ ht).1 n (fun j => .int (f j))) (j := i) (by show (i < 0 ∨ (arrV _ _ _).slots.size ≤ _); rw [arrV_size]; exact Classical.byContradiction hout) (g := F0 m pc ls (.int i :: .ref a :: rest)) rfl (rest := rest) rfl (by rw [hb]; exact hdg) t
  simp only [arrV_size] at h1
  exact h1 st
theorem vx_castZ {D : va_G} {cl : List vw_C} {ws : va_W} {tys : List (ClassId × FieldType)} {a : Nat} (hexec : p.tables.exec = Jvm.exec) (hb : c.code = cc) (hK : va_K D cl tys s) (hP : va_P D cl ws H) (q0 t0 : Nat) {cA : ClassId} {n : Nat} {f : Nat → Int32} (ha : ws[q0]? = some (a, .inl (cA, n, .inl f))) (ht : tys[t0]? = some (cA, .char)) {i : Int32} {x : Int32} (hout : ¬ vp_in i n) (hdg : decode cc pc = .ok (.castore, 1))
    (k : ∀ tx : String, tx = (toString "Index " ++ toString i ++ toString " out of bounds for length " ++ toString n : String) → vx_Note p l e R s m args below meth c H locs cells slots Q (F0 m pc ls rest) "java/lang/ArrayIndexOutOfBoundsException" tx) : W p l e R s m args below meth c H locs cells slots Q (F0 m pc ls (.int x :: .int i :: .ref a :: rest)) := by
  intro T hT X
  obtain ⟨t, st, q⟩ := k _ rfl T hT X
  refine ⟨t, ?_, q⟩
  have h1 := X.castoreOut hexec (by rw [hT]; exact hP q0 _ ha) ((hK.2 t0 _ ht).1 n (fun j => .int (f j))) (j := i) (by show (i < 0 ∨ (arrV _ _ _).slots.size ≤ _); rw [arrV_size]; exact Classical.byContradiction hout) (g := F0 m pc ls (.int x :: .int i :: .ref a :: rest)) rfl (rest := rest) rfl (by rw [hb]; exact hdg) t
  simp only [arrV_size] at h1
  exact h1 st
theorem vx_saldZ {D : va_G} {cl : List vw_C} {ws : va_W} {tys : List (ClassId × FieldType)} {a : Nat} (hexec : p.tables.exec = Jvm.exec) (hb : c.code = cc) (hK : va_K D cl tys s) (hP : va_P D cl ws H) (q0 t0 : Nat) {cA : ClassId} {n : Nat} {f : Nat → Int32} (ha : ws[q0]? = some (a, .inl (cA, n, .inl f))) (ht : tys[t0]? = some (cA, .short)) {i : Int32} (hout : ¬ vp_in i n) (hdg : decode cc pc = .ok (.saload, 1))
    (k : ∀ tx : String, tx = (toString "Index " ++ toString i ++ toString " out of bounds for length " ++ toString n : String) → vx_Note p l e R s m args below meth c H locs cells slots Q (F0 m pc ls rest) "java/lang/ArrayIndexOutOfBoundsException" tx) : W p l e R s m args below meth c H locs cells slots Q (F0 m pc ls (.int i :: .ref a :: rest)) := by
  intro T hT X
  obtain ⟨t, st, q⟩ := k _ rfl T hT X
  refine ⟨t, ?_, q⟩
  have h1 := X.saloadOut hexec (by rw [hT]; exact hP q0 _ ha) ((hK.2 t0 _ ht).1 n (fun j => .int (f j))) (j := i) (by show (i < 0 ∨ (arrV _ _ _).slots.size ≤ _); rw [arrV_size]; exact Classical.byContradiction hout) (g := F0 m pc ls (.int i :: .ref a :: rest)) rfl (rest := rest) rfl (by rw [hb]; exact hdg) t
  simp only [arrV_size] at h1
  exact h1 st
theorem vx_sastZ {D : va_G} {cl : List vw_C} {ws : va_W} {tys : List (ClassId × FieldType)} {a : Nat} (hexec : p.tables.exec = Jvm.exec) (hb : c.code = cc) (hK : va_K D cl tys s) (hP : va_P D cl ws H) (q0 t0 : Nat) {cA : ClassId} {n : Nat} {f : Nat → Int32} (ha : ws[q0]? = some (a, .inl (cA, n, .inl f))) (ht : tys[t0]? = some (cA, .short)) {i : Int32} {x : Int32} (hout : ¬ vp_in i n) (hdg : decode cc pc = .ok (.sastore, 1))
    (k : ∀ tx : String, tx = (toString "Index " ++ toString i ++ toString " out of bounds for length " ++ toString n : String) → vx_Note p l e R s m args below meth c H locs cells slots Q (F0 m pc ls rest) "java/lang/ArrayIndexOutOfBoundsException" tx) : W p l e R s m args below meth c H locs cells slots Q (F0 m pc ls (.int x :: .int i :: .ref a :: rest)) := by
  intro T hT X
  obtain ⟨t, st, q⟩ := k _ rfl T hT X
  refine ⟨t, ?_, q⟩
  have h1 := X.sastoreOut hexec (by rw [hT]; exact hP q0 _ ha) ((hK.2 t0 _ ht).1 n (fun j => .int (f j))) (j := i) (by show (i < 0 ∨ (arrV _ _ _).slots.size ≤ _); rw [arrV_size]; exact Classical.byContradiction hout) (g := F0 m pc ls (.int x :: .int i :: .ref a :: rest)) rfl (rest := rest) rfl (by rw [hb]; exact hdg) t
  simp only [arrV_size] at h1
  exact h1 st
theorem vx_laldZ {D : va_G} {cl : List vw_C} {ws : va_W} {tys : List (ClassId × FieldType)} {a : Nat} (hexec : p.tables.exec = Jvm.exec) (hb : c.code = cc) (hK : va_K D cl tys s) (hP : va_P D cl ws H) (q0 t0 : Nat) {cA : ClassId} {n : Nat} {f : Nat → Int64} (ha : ws[q0]? = some (a, .inl (cA, n, .inr (.inl f)))) (ht : tys[t0]? = some (cA, .long)) {i : Int32} (hout : ¬ vp_in i n) (hdg : decode cc pc = .ok (.laload, 1))
    (k : ∀ tx : String, tx = (toString "Index " ++ toString i ++ toString " out of bounds for length " ++ toString n : String) → vx_Note p l e R s m args below meth c H locs cells slots Q (F0 m pc ls rest) "java/lang/ArrayIndexOutOfBoundsException" tx) : W p l e R s m args below meth c H locs cells slots Q (F0 m pc ls (.int i :: .ref a :: rest)) := by
  intro T hT X
  obtain ⟨t, st, q⟩ := k _ rfl T hT X
  refine ⟨t, ?_, q⟩
  have h1 := X.laloadOut hexec (by rw [hT]; exact hP q0 _ ha) ((hK.2 t0 _ ht).1 n (fun j => .long (f j))) (j := i) (by show (i < 0 ∨ (arrV _ _ _).slots.size ≤ _); rw [arrV_size]; exact Classical.byContradiction hout) (g := F0 m pc ls (.int i :: .ref a :: rest)) rfl (rest := rest) rfl (by rw [hb]; exact hdg) t
  simp only [arrV_size] at h1
  exact h1 st
theorem vx_lastZ {D : va_G} {cl : List vw_C} {ws : va_W} {tys : List (ClassId × FieldType)} {a : Nat} (hexec : p.tables.exec = Jvm.exec) (hb : c.code = cc) (hK : va_K D cl tys s) (hP : va_P D cl ws H) (q0 t0 : Nat) {cA : ClassId} {n : Nat} {f : Nat → Int64} (ha : ws[q0]? = some (a, .inl (cA, n, .inr (.inl f)))) (ht : tys[t0]? = some (cA, .long)) {i : Int32} {x : Int64} (hout : ¬ vp_in i n) (hdg : decode cc pc = .ok (.lastore, 1))
    (k : ∀ tx : String, tx = (toString "Index " ++ toString i ++ toString " out of bounds for length " ++ toString n : String) → vx_Note p l e R s m args below meth c H locs cells slots Q (F0 m pc ls rest) "java/lang/ArrayIndexOutOfBoundsException" tx) : W p l e R s m args below meth c H locs cells slots Q (F0 m pc ls (.long x :: .int i :: .ref a :: rest)) := by
  intro T hT X
  obtain ⟨t, st, q⟩ := k _ rfl T hT X
  refine ⟨t, ?_, q⟩
  have h1 := X.lastoreOut hexec (by rw [hT]; exact hP q0 _ ha) ((hK.2 t0 _ ht).1 n (fun j => .long (f j))) (j := i) (by show (i < 0 ∨ (arrV _ _ _).slots.size ≤ _); rw [arrV_size]; exact Classical.byContradiction hout) (g := F0 m pc ls (.long x :: .int i :: .ref a :: rest)) rfl (rest := rest) rfl (by rw [hb]; exact hdg) t
  simp only [arrV_size] at h1
  exact h1 st
theorem vx_faldZ {D : va_G} {cl : List vw_C} {ws : va_W} {tys : List (ClassId × FieldType)} {a : Nat} (hexec : p.tables.exec = Jvm.exec) (hb : c.code = cc) (hK : va_K D cl tys s) (hP : va_P D cl ws H) (q0 t0 : Nat) {cA : ClassId} {n : Nat} {f : Nat → UInt32} (ha : ws[q0]? = some (a, .inl (cA, n, .inr (.inr (.inl f))))) (ht : tys[t0]? = some (cA, .float)) {i : Int32} (hout : ¬ vp_in i n) (hdg : decode cc pc = .ok (.faload, 1))
    (k : ∀ tx : String, tx = (toString "Index " ++ toString i ++ toString " out of bounds for length " ++ toString n : String) → vx_Note p l e R s m args below meth c H locs cells slots Q (F0 m pc ls rest) "java/lang/ArrayIndexOutOfBoundsException" tx) : W p l e R s m args below meth c H locs cells slots Q (F0 m pc ls (.int i :: .ref a :: rest)) := by
  intro T hT X
  obtain ⟨t, st, q⟩ := k _ rfl T hT X
  refine ⟨t, ?_, q⟩
  have h1 := X.faloadOut hexec (by rw [hT]; exact hP q0 _ ha) ((hK.2 t0 _ ht).1 n (fun j => .float (f j))) (j := i) (by show (i < 0 ∨ (arrV _ _ _).slots.size ≤ _); rw [arrV_size]; exact Classical.byContradiction hout) (g := F0 m pc ls (.int i :: .ref a :: rest)) rfl (rest := rest) rfl (by rw [hb]; exact hdg) t
  simp only [arrV_size] at h1
  exact h1 st
theorem vx_fastZ {D : va_G} {cl : List vw_C} {ws : va_W} {tys : List (ClassId × FieldType)} {a : Nat} (hexec : p.tables.exec = Jvm.exec) (hb : c.code = cc) (hK : va_K D cl tys s) (hP : va_P D cl ws H) (q0 t0 : Nat) {cA : ClassId} {n : Nat} {f : Nat → UInt32} (ha : ws[q0]? = some (a, .inl (cA, n, .inr (.inr (.inl f))))) (ht : tys[t0]? = some (cA, .float)) {i : Int32} {x : UInt32} (hout : ¬ vp_in i n) (hdg : decode cc pc = .ok (.fastore, 1))
    (k : ∀ tx : String, tx = (toString "Index " ++ toString i ++ toString " out of bounds for length " ++ toString n : String) → vx_Note p l e R s m args below meth c H locs cells slots Q (F0 m pc ls rest) "java/lang/ArrayIndexOutOfBoundsException" tx) : W p l e R s m args below meth c H locs cells slots Q (F0 m pc ls (.float x :: .int i :: .ref a :: rest)) := by
  intro T hT X
  obtain ⟨t, st, q⟩ := k _ rfl T hT X
  refine ⟨t, ?_, q⟩
  have h1 := X.fastoreOut hexec (by rw [hT]; exact hP q0 _ ha) ((hK.2 t0 _ ht).1 n (fun j => .float (f j))) (j := i) (by show (i < 0 ∨ (arrV _ _ _).slots.size ≤ _); rw [arrV_size]; exact Classical.byContradiction hout) (g := F0 m pc ls (.float x :: .int i :: .ref a :: rest)) rfl (rest := rest) rfl (by rw [hb]; exact hdg) t
  simp only [arrV_size] at h1
  exact h1 st
theorem vx_daldZ {D : va_G} {cl : List vw_C} {ws : va_W} {tys : List (ClassId × FieldType)} {a : Nat} (hexec : p.tables.exec = Jvm.exec) (hb : c.code = cc) (hK : va_K D cl tys s) (hP : va_P D cl ws H) (q0 t0 : Nat) {cA : ClassId} {n : Nat} {f : Nat → UInt64} (ha : ws[q0]? = some (a, .inl (cA, n, .inr (.inr (.inr (.inl f)))))) (ht : tys[t0]? = some (cA, .double)) {i : Int32} (hout : ¬ vp_in i n) (hdg : decode cc pc = .ok (.daload, 1))
    (k : ∀ tx : String, tx = (toString "Index " ++ toString i ++ toString " out of bounds for length " ++ toString n : String) → vx_Note p l e R s m args below meth c H locs cells slots Q (F0 m pc ls rest) "java/lang/ArrayIndexOutOfBoundsException" tx) : W p l e R s m args below meth c H locs cells slots Q (F0 m pc ls (.int i :: .ref a :: rest)) := by
  intro T hT X
  obtain ⟨t, st, q⟩ := k _ rfl T hT X
  refine ⟨t, ?_, q⟩
  have h1 := X.daloadOut hexec (by rw [hT]; exact hP q0 _ ha) ((hK.2 t0 _ ht).1 n (fun j => .double (f j))) (j := i) (by show (i < 0 ∨ (arrV _ _ _).slots.size ≤ _); rw [arrV_size]; exact Classical.byContradiction hout) (g := F0 m pc ls (.int i :: .ref a :: rest)) rfl (rest := rest) rfl (by rw [hb]; exact hdg) t
  simp only [arrV_size] at h1
  exact h1 st
theorem vx_dastZ {D : va_G} {cl : List vw_C} {ws : va_W} {tys : List (ClassId × FieldType)} {a : Nat} (hexec : p.tables.exec = Jvm.exec) (hb : c.code = cc) (hK : va_K D cl tys s) (hP : va_P D cl ws H) (q0 t0 : Nat) {cA : ClassId} {n : Nat} {f : Nat → UInt64} (ha : ws[q0]? = some (a, .inl (cA, n, .inr (.inr (.inr (.inl f)))))) (ht : tys[t0]? = some (cA, .double)) {i : Int32} {x : UInt64} (hout : ¬ vp_in i n) (hdg : decode cc pc = .ok (.dastore, 1))
    (k : ∀ tx : String, tx = (toString "Index " ++ toString i ++ toString " out of bounds for length " ++ toString n : String) → vx_Note p l e R s m args below meth c H locs cells slots Q (F0 m pc ls rest) "java/lang/ArrayIndexOutOfBoundsException" tx) : W p l e R s m args below meth c H locs cells slots Q (F0 m pc ls (.double x :: .int i :: .ref a :: rest)) := by
  intro T hT X
  obtain ⟨t, st, q⟩ := k _ rfl T hT X
  refine ⟨t, ?_, q⟩
  have h1 := X.dastoreOut hexec (by rw [hT]; exact hP q0 _ ha) ((hK.2 t0 _ ht).1 n (fun j => .double (f j))) (j := i) (by show (i < 0 ∨ (arrV _ _ _).slots.size ≤ _); rw [arrV_size]; exact Classical.byContradiction hout) (g := F0 m pc ls (.double x :: .int i :: .ref a :: rest)) rfl (rest := rest) rfl (by rw [hb]; exact hdg) t
  simp only [arrV_size] at h1
  exact h1 st
theorem vx_arraylengthN (hexec : p.tables.exec = Jvm.exec) (hb : c.code = cc) (hdg : decode cc pc = .ok (.arraylength, 1)) (k : vx_NoteN p l e R s m args below meth c H locs cells slots Q (F0 m pc ls rest)) : W p l e R s m args below meth c H locs cells slots Q (F0 m pc ls (.null :: rest)) := by
  intro T hT X
  obtain ⟨t, st, q⟩ := k T hT X
  exact ⟨t, X.arraylengthNull hexec (g := F0 m pc ls (.null :: rest)) rfl (rest := rest) rfl (by rw [hb]; exact hdg) t st, q⟩
theorem vx_ialoadN (hexec : p.tables.exec = Jvm.exec) (hb : c.code = cc) {i : Int32} (hdg : decode cc pc = .ok (.iaload, 1)) (k : vx_NoteN p l e R s m args below meth c H locs cells slots Q (F0 m pc ls rest)) : W p l e R s m args below meth c H locs cells slots Q (F0 m pc ls (.int i :: .null :: rest)) := by
  intro T hT X
  obtain ⟨t, st, q⟩ := k T hT X
  exact ⟨t, X.ialoadNull hexec (g := F0 m pc ls (.int i :: .null :: rest)) rfl (rest := rest) rfl (by rw [hb]; exact hdg) t st, q⟩
theorem vx_laloadN (hexec : p.tables.exec = Jvm.exec) (hb : c.code = cc) {i : Int32} (hdg : decode cc pc = .ok (.laload, 1)) (k : vx_NoteN p l e R s m args below meth c H locs cells slots Q (F0 m pc ls rest)) : W p l e R s m args below meth c H locs cells slots Q (F0 m pc ls (.int i :: .null :: rest)) := by
  intro T hT X
  obtain ⟨t, st, q⟩ := k T hT X
  exact ⟨t, X.laloadNull hexec (g := F0 m pc ls (.int i :: .null :: rest)) rfl (rest := rest) rfl (by rw [hb]; exact hdg) t st, q⟩
theorem vx_faloadN (hexec : p.tables.exec = Jvm.exec) (hb : c.code = cc) {i : Int32} (hdg : decode cc pc = .ok (.faload, 1)) (k : vx_NoteN p l e R s m args below meth c H locs cells slots Q (F0 m pc ls rest)) : W p l e R s m args below meth c H locs cells slots Q (F0 m pc ls (.int i :: .null :: rest)) := by
  intro T hT X
  obtain ⟨t, st, q⟩ := k T hT X
  exact ⟨t, X.faloadNull hexec (g := F0 m pc ls (.int i :: .null :: rest)) rfl (rest := rest) rfl (by rw [hb]; exact hdg) t st, q⟩
theorem vx_daloadN (hexec : p.tables.exec = Jvm.exec) (hb : c.code = cc) {i : Int32} (hdg : decode cc pc = .ok (.daload, 1)) (k : vx_NoteN p l e R s m args below meth c H locs cells slots Q (F0 m pc ls rest)) : W p l e R s m args below meth c H locs cells slots Q (F0 m pc ls (.int i :: .null :: rest)) := by
  intro T hT X
  obtain ⟨t, st, q⟩ := k T hT X
  exact ⟨t, X.daloadNull hexec (g := F0 m pc ls (.int i :: .null :: rest)) rfl (rest := rest) rfl (by rw [hb]; exact hdg) t st, q⟩
theorem vx_aaloadN (hexec : p.tables.exec = Jvm.exec) (hb : c.code = cc) {i : Int32} (hdg : decode cc pc = .ok (.aaload, 1)) (k : vx_NoteN p l e R s m args below meth c H locs cells slots Q (F0 m pc ls rest)) : W p l e R s m args below meth c H locs cells slots Q (F0 m pc ls (.int i :: .null :: rest)) := by
  intro T hT X
  obtain ⟨t, st, q⟩ := k T hT X
  exact ⟨t, X.aaloadNull hexec (g := F0 m pc ls (.int i :: .null :: rest)) rfl (rest := rest) rfl (by rw [hb]; exact hdg) t st, q⟩
theorem vx_baloadN (hexec : p.tables.exec = Jvm.exec) (hb : c.code = cc) {i : Int32} (hdg : decode cc pc = .ok (.baload, 1)) (k : vx_NoteN p l e R s m args below meth c H locs cells slots Q (F0 m pc ls rest)) : W p l e R s m args below meth c H locs cells slots Q (F0 m pc ls (.int i :: .null :: rest)) := by
  intro T hT X
  obtain ⟨t, st, q⟩ := k T hT X
  exact ⟨t, X.baloadNull hexec (g := F0 m pc ls (.int i :: .null :: rest)) rfl (rest := rest) rfl (by rw [hb]; exact hdg) t st, q⟩
theorem vx_caloadN (hexec : p.tables.exec = Jvm.exec) (hb : c.code = cc) {i : Int32} (hdg : decode cc pc = .ok (.caload, 1)) (k : vx_NoteN p l e R s m args below meth c H locs cells slots Q (F0 m pc ls rest)) : W p l e R s m args below meth c H locs cells slots Q (F0 m pc ls (.int i :: .null :: rest)) := by
  intro T hT X
  obtain ⟨t, st, q⟩ := k T hT X
  exact ⟨t, X.caloadNull hexec (g := F0 m pc ls (.int i :: .null :: rest)) rfl (rest := rest) rfl (by rw [hb]; exact hdg) t st, q⟩
theorem vx_saloadN (hexec : p.tables.exec = Jvm.exec) (hb : c.code = cc) {i : Int32} (hdg : decode cc pc = .ok (.saload, 1)) (k : vx_NoteN p l e R s m args below meth c H locs cells slots Q (F0 m pc ls rest)) : W p l e R s m args below meth c H locs cells slots Q (F0 m pc ls (.int i :: .null :: rest)) := by
  intro T hT X
  obtain ⟨t, st, q⟩ := k T hT X
  exact ⟨t, X.saloadNull hexec (g := F0 m pc ls (.int i :: .null :: rest)) rfl (rest := rest) rfl (by rw [hb]; exact hdg) t st, q⟩
theorem vx_iastoreN (hexec : p.tables.exec = Jvm.exec) (hb : c.code = cc) {x : Int32} {i : Int32} (hdg : decode cc pc = .ok (.iastore, 1)) (k : vx_NoteN p l e R s m args below meth c H locs cells slots Q (F0 m pc ls rest)) : W p l e R s m args below meth c H locs cells slots Q (F0 m pc ls (.int x :: .int i :: .null :: rest)) := by
  intro T hT X
  obtain ⟨t, st, q⟩ := k T hT X
  exact ⟨t, X.iastoreNull hexec (g := F0 m pc ls (.int x :: .int i :: .null :: rest)) rfl (rest := rest) rfl (by rw [hb]; exact hdg) t st, q⟩
theorem vx_lastoreN (hexec : p.tables.exec = Jvm.exec) (hb : c.code = cc) {x : Int64} {i : Int32} (hdg : decode cc pc = .ok (.lastore, 1)) (k : vx_NoteN p l e R s m args below meth c H locs cells slots Q (F0 m pc ls rest)) : W p l e R s m args below meth c H locs cells slots Q (F0 m pc ls (.long x :: .int i :: .null :: rest)) := by
  intro T hT X
  obtain ⟨t, st, q⟩ := k T hT X
  exact ⟨t, X.lastoreNull hexec (g := F0 m pc ls (.long x :: .int i :: .null :: rest)) rfl (rest := rest) rfl (by rw [hb]; exact hdg) t st, q⟩
theorem vx_fastoreN (hexec : p.tables.exec = Jvm.exec) (hb : c.code = cc) {x : UInt32} {i : Int32} (hdg : decode cc pc = .ok (.fastore, 1)) (k : vx_NoteN p l e R s m args below meth c H locs cells slots Q (F0 m pc ls rest)) : W p l e R s m args below meth c H locs cells slots Q (F0 m pc ls (.float x :: .int i :: .null :: rest)) := by
  intro T hT X
  obtain ⟨t, st, q⟩ := k T hT X
  exact ⟨t, X.fastoreNull hexec (g := F0 m pc ls (.float x :: .int i :: .null :: rest)) rfl (rest := rest) rfl (by rw [hb]; exact hdg) t st, q⟩
theorem vx_dastoreN (hexec : p.tables.exec = Jvm.exec) (hb : c.code = cc) {x : UInt64} {i : Int32} (hdg : decode cc pc = .ok (.dastore, 1)) (k : vx_NoteN p l e R s m args below meth c H locs cells slots Q (F0 m pc ls rest)) : W p l e R s m args below meth c H locs cells slots Q (F0 m pc ls (.double x :: .int i :: .null :: rest)) := by
  intro T hT X
  obtain ⟨t, st, q⟩ := k T hT X
  exact ⟨t, X.dastoreNull hexec (g := F0 m pc ls (.double x :: .int i :: .null :: rest)) rfl (rest := rest) rfl (by rw [hb]; exact hdg) t st, q⟩
theorem vx_bastoreN (hexec : p.tables.exec = Jvm.exec) (hb : c.code = cc) {x : Int32} {i : Int32} (hdg : decode cc pc = .ok (.bastore, 1)) (k : vx_NoteN p l e R s m args below meth c H locs cells slots Q (F0 m pc ls rest)) : W p l e R s m args below meth c H locs cells slots Q (F0 m pc ls (.int x :: .int i :: .null :: rest)) := by
  intro T hT X
  obtain ⟨t, st, q⟩ := k T hT X
  exact ⟨t, X.bastoreNull hexec (g := F0 m pc ls (.int x :: .int i :: .null :: rest)) rfl (rest := rest) rfl (by rw [hb]; exact hdg) t st, q⟩
theorem vx_castoreN (hexec : p.tables.exec = Jvm.exec) (hb : c.code = cc) {x : Int32} {i : Int32} (hdg : decode cc pc = .ok (.castore, 1)) (k : vx_NoteN p l e R s m args below meth c H locs cells slots Q (F0 m pc ls rest)) : W p l e R s m args below meth c H locs cells slots Q (F0 m pc ls (.int x :: .int i :: .null :: rest)) := by
  intro T hT X
  obtain ⟨t, st, q⟩ := k T hT X
  exact ⟨t, X.castoreNull hexec (g := F0 m pc ls (.int x :: .int i :: .null :: rest)) rfl (rest := rest) rfl (by rw [hb]; exact hdg) t st, q⟩
theorem vx_sastoreN (hexec : p.tables.exec = Jvm.exec) (hb : c.code = cc) {x : Int32} {i : Int32} (hdg : decode cc pc = .ok (.sastore, 1)) (k : vx_NoteN p l e R s m args below meth c H locs cells slots Q (F0 m pc ls rest)) : W p l e R s m args below meth c H locs cells slots Q (F0 m pc ls (.int x :: .int i :: .null :: rest)) := by
  intro T hT X
  obtain ⟨t, st, q⟩ := k T hT X
  exact ⟨t, X.sastoreNull hexec (g := F0 m pc ls (.int x :: .int i :: .null :: rest)) rfl (rest := rest) rfl (by rw [hb]; exact hdg) t st, q⟩
theorem vx_invokeN {own C : String} {index maxL : Nat} {y : MethodName} {bytes : ByteArray} {ret : Option FieldType} (hexec : p.tables.exec = Jvm.exec) (hb : c.code = cc) (hown : s.vm.findClass own = some m.cls) (hlink : (Cond.methodLink own index y).before args s = true) (hinst : (Cond.instanceMethod y).before args s = true) (hcode : (Cond.code y bytes maxL ret).before args s = true) (hsel : (Cond.selects C y y).before args s = true)
    (hx : y.cls ≠ "java/lang/invoke/MethodHandle" ∧ y.cls ≠ "java/lang/invoke/VarHandle") {As : List Value} (hlen : (parseMethodDescriptor y.desc).map (fun d => d.parameters.length) = some As.length) (hdg : decode cc pc = .ok (.invokevirtual index, 3))
    (k : vx_NoteN p l e R s m args below meth c H locs cells slots Q (F0 m pc ls rest)) {st0 : List Value} (hst : st0 = As.reverse ++ .null :: rest) : W p l e R s m args below meth c H locs cells slots Q (F0 m pc ls st0) := by
  intro T hT X
  obtain ⟨r0, r, hn, hrm, hstR, hsigR⟩ := va_Decl.of hinst hcode
  obtain ⟨c2, r2, m2, q1, q2, q3, q4, kP, hkP, hkPi⟩ := Cond.selects_spec hsel
  cases hn.symm.trans q3
  have hl9 : As.length = r.sig.parameters.length := by
    rw [hsigR] at hlen
    exact (Option.some.inj hlen).symm
  obtain ⟨vm', X1, st1⟩ := X.invokevirtualNull hexec hown hlink hn hrm hstR hkP hkPi hx (g := F0 m pc ls st0) rfl (argsL := As) (rest := rest) hl9 hst (by rw [hb]; exact hdg)
  obtain ⟨t, st, q⟩ := k (T.setVm vm') hT X1
  exact ⟨t, st1 t st, q⟩
theorem vx_newarrayZ {atype : ArrayType} (hexec : p.tables.exec = Jvm.exec) (hb : c.code = cc) {n : Int32} (h0 : n < 0) (hdg : decode cc pc = .ok (.newarray atype, 2)) (k : ∀ tx : String, tx = toString n → vx_Note p l e R s m args below meth c H locs cells slots Q (F0 m pc ls rest) "java/lang/NegativeArraySizeException" tx) : W p l e R s m args below meth c H locs cells slots Q (F0 m pc ls (.int n :: rest)) := by
  intro T hT X
  obtain ⟨t, st, q⟩ := k _ rfl T hT X
  exact ⟨t, X.newarrayNegative hexec (g := F0 m pc ls (.int n :: rest)) rfl h0 (rest := rest) rfl (by rw [hb]; exact hdg) t st, q⟩
end
end VXM
/-! ===== END ===== -/
/-! ===== BEGIN an exception as an object: made, kept, thrown later (no traces kept) ===== -/
section VXK
variable {p : Program} {l : Launch} {e : Env} {R : Room} {s : State} {m₀ : MethodId} {args : Array Value} {below : List Frame} {meth : Method} {c : Code} {W : State} {locs : List Loc} {cells slots : Nat}
set_option maxHeartbeats 1000000 in
theorem vx_ctorMadeS (X : Stand p l e R s m₀ args below meth c W locs cells slots) (hexec : p.tables.exec = Jvm.exec) (htr : e.platform.stackTraces = false) {own cls : String} {names : List String} {ic : Nat}
    (hown : s.vm.findClass own = some m₀.cls) (hcls : Bundle.fit cls = true) (hnames : ∀ n ∈ names, Bundle.fit n = true)
    (h : ∀ a ∈ Bundle.ownAtoms own ic cls names, a.before args s = true)
    (hlocs : ∀ x ∈ locs, ∀ cell, s.heap[x.base]? = some cell → cell.vm.isStatics = false)
    {a : Addr} {cX : ClassId} {kX : Class} (hfoundX : s.vm.findClass cls = some cX) (hkX : s.vm.classes[cX]? = some kX) (hcell : W.heap[a]? = some (freshCell cX kX)) (hnew : s.heap.size ≤ a)
    {msg : Value} (hmsg : msg.isRef = true)
    {g : JFrame} (hg : g.method = m₀) (hsize : g.locals.size = c.maxLocals) {rest : List Value} (hstack : g.stack = msg :: .ref a :: .ref a :: rest)
    (hd6 : decode c.code g.pc = .ok (.invokespecial ic, 3))
    (hRframes : names.length + 3 < R.frames) (hRlocals : 2 * g.monitorRoom + ((Value.ref a :: rest).map fun v => v.category).sum + (13 * (names.length + 1) + 42) ≤ R.locals) :
    ∃ (V : State) (ce : Cell) (L : List Loc), Stand p l e R s m₀ args below meth c (V.setCell a ce) (locs ++ L) cells slots ∧ (∀ y ∈ L, y.base = a) ∧ a < V.heap.size ∧ ce.cls = cX ∧ ce.vm = .none ∧
      ∀ target, Steps p.tables e below ((V.setCell a ce).setTop { g with stack := .ref a :: rest, pc := g.pc + 3 }) target → Steps p.tables e below (W.setTop g) target := by
  have howns : e.platform.frameOwnsMonitors = true := by rw [X.admits.platform]
  have hfin : e.platform.finalization = false := by rw [X.admits.platform]
  have hpl : e.platform.magicAccessors = ({} : Platform).magicAccessors := by rw [X.admits.platform]
  have a' : ∀ x, x ∈ Bundle.ownAtoms own ic cls names → x.holds args s none s [] = true := fun x hx => h x hx
  obtain ⟨T, Z0, L, -, Y⟩ := ThrowableC.of_atoms (args := args) howns hfin hpl (fun x hx => h x (by simp [Bundle.ownAtoms, hx]))
  obtain ⟨Z, M, LZ, LM, hnZ⟩ := Init0T.ofS_atoms (args := args) hpl L Y (fun x hx => h x (by simp [Bundle.ownAtoms, hx]))
  obtain ⟨P1, Ps, hlen, L1, hL, hP1m, hlink1, hlink⟩ := Bundle.chainS (args := args) hpl hnZ names cls hcls hnames (fun x hx => h x (by simp [Bundle.ownAtoms, hx]))
  have hfound : s.vm.findClass cls = some P1.m.cls := findClass_of_methodNamed hP1m
  cases Option.some.inj (hfoundX.symm.trans hfound)
  obtain ⟨c1, kX', hc1, hk, hord, -, -, hn6⟩ := Cond.instantiable_spec (a' (.instantiable cls 6) (by simp [Bundle.ownAtoms]))
  cases Option.some.inj (hc1.symm.trans hfound)
  cases Option.some.inj (hkX.symm.trans hk)
  have hsel0 : selectMethod e.platform s.vm P1.m.cls T.fill0 = .method T.fill0 := by
    obtain ⟨c2, r2, m2, q1, q2, q3, q4, -⟩ := Cond.selects_spec (a' (.selects cls Bundle.tFill0 Bundle.tFill0) (by simp [Bundle.ownAtoms]))
    cases Option.some.inj (q1.symm.trans hfound)
    cases Option.some.inj (q2.symm.trans (State.methodFound?_of_named Y.fill0 (by decide)))
    cases Option.some.inj (q3.symm.trans Y.fill0)
    rw [Launch.admits_selectMethod X.admits]; exact q4
  have hselF : selectMethod e.platform s.vm P1.m.cls T.fill = .method T.fill := by
    obtain ⟨c2, r2, m2, q1, q2, q3, q4, -⟩ := Cond.selects_spec (a' (.selects cls Bundle.tFill Bundle.tFill) (by simp [Bundle.ownAtoms]))
    cases Option.some.inj (q1.symm.trans hfound)
    cases Option.some.inj (q2.symm.trans (State.methodFound?_of_named Y.fill (by decide)))
    cases Option.some.inj (q3.symm.trans Y.fill)
    rw [Launch.admits_selectMethod X.admits]; exact q4
  obtain ⟨cellS0, hcS0, hiss⟩ := Y.statics
  obtain ⟨u0, hu0⟩ := Cond.staticRefV Y.unassigned L.unassignedStatic L.statics hcS0 hiss (a' (.isRef (.static Bundle.tN "UNASSIGNED_STACK" Bundle.steD)) (by simp [Bundle.ownAtoms]))
  obtain ⟨sen, hsen⟩ := Cond.staticRefV Y.sentinel L.sentinelStatic L.statics hcS0 hiss (a' (.isRef (.static Bundle.tN "SUPPRESSED_SENTINEL" Bundle.listD)) (by simp [Bundle.ownAtoms]))
  obtain ⟨ci198, i198, fB, hk198, hg198, ha198, hsB, -, hnB, htB, hffB⟩ := Cond.ownField (t := .object "java/lang/Object") Y.found L.cls (by decide +kernel) (a' (.fieldLink Bundle.tN 198 Bundle.tN "backtrace" "Ljava/lang/Object;") (by simp [Bundle.ownAtoms])) (a' (.lays Bundle.tN Bundle.tN "backtrace" "Ljava/lang/Object;") (by simp [Bundle.ownAtoms])) e.platform hpl
  obtain ⟨cellS, hcS', heS, -, hkeep⟩ := X.same.2.2.2.2.2 T.aS cellS0 hcS0
  have hcellS : W.heap[T.aS]? = some cellS := hcS'
  have hout' : ∀ i, (⟨T.aS, i⟩ : Loc) ∉ locs := fun i hmem => by
    have := hlocs _ hmem cellS0 hcS0
    rw [hiss] at this; cases this
  have hknownS : cellS.vm ≠ .unknown := by
    rw [heS]; intro hu
    rw [show cellS0.vm = .unknown from hu] at hiss
    cases hiss
  have hneS : T.aS ≠ a := Nat.ne_of_lt (Nat.lt_of_lt_of_le (Array.getElem?_eq_some_iff.mp hcS0).1 hnew)
  obtain ⟨iM, hffM⟩ := Y.msg
  obtain ⟨tyC, dC, hdC, hdnC⟩ := Cond.laysAt hfound hk Y.cause (a' (.lays cls Bundle.tN "cause" "Ljava/lang/Throwable;") (by simp [Bundle.ownAtoms]))
  obtain ⟨tyS, dS, hdS, hdnS⟩ := Cond.laysAt hfound hk Y.stack (a' (.lays cls Bundle.tN "stackTrace" Bundle.steD) (by simp [Bundle.ownAtoms]))
  obtain ⟨tyP, dP, hdP, hdnP⟩ := Cond.laysAt hfound hk Y.supp (a' (.lays cls Bundle.tN "suppressedExceptions" Bundle.listD) (by simp [Bundle.ownAtoms]))
  obtain ⟨tyM, dM, hdM, hdnM⟩ := Cond.laysAt hfound hk hffM (a' (.lays cls Bundle.tN "detailMessage" "Ljava/lang/String;") (by simp [Bundle.ownAtoms]))
  obtain ⟨tyB, dB, hdB, hdnB⟩ := Cond.laysAt hfound hk hffB (a' (.lays cls Bundle.tN "backtrace" "Ljava/lang/Object;") (by simp [Bundle.ownAtoms]))
  have bC := Cond.laysApart hdB hdC hdnB hdnC (by rw [hnB, Y.causeName]; decide)
  have bS := Cond.laysApart hdB hdS hdnB hdnS (by rw [hnB, Y.stackName]; decide)
  have bP := Cond.laysApart hdB hdP hdnB hdnP (by rw [hnB, Y.suppName]; decide)
  have hskip : SkipFacts T e.platform s (fun u => u) u0 ((preparedCellV T.toThrowableT (freshCell P1.m.cls kX) a u0 sen).withEntry W.cur) :=
    ⟨{ ci198 := ci198, i198 := i198, fBack := fB }, ⟨hk198, hg198, ha198, hsB⟩, by
      have := fresh_default (c := P1.m.cls) tyB
      rw [htB] at this
      simpa [preparedCellV, Cell.setSlot, Cell.withEntry, Array.getElem?_setIfInBounds, bC, bS, bP, bC.symm, bS.symm, bP.symm, defaultValue] using this, fun _ _ => rfl⟩
  obtain ⟨tm, methC, cdC, kC, vm₁, hnC, -, -, -, -, -, -, -, hW₁, st1⟩ := Steps.initColdS (tb := p.tables) (e := e) (below := below) (s := s) (U := W) X.here hexec X.warmed hpl hown (t := Bundle.initS cls) rfl rfl (Bundle.fit_spec hcls).2
    (a' (.methodLink own ic (Bundle.initS cls)) (by simp [Bundle.ownAtoms])) (h (.instanceMethod (Bundle.initS cls)) (by cases names <;> simp [Bundle.ownAtoms, Bundle.chainSAtoms, Bundle.passSAtoms])) (bytes := Bundle.six) (maxL := 2) (h (.code (Bundle.initS cls) Bundle.six 2 none) (by cases names <;> simp [Bundle.ownAtoms, Bundle.chainSAtoms, Bundle.passSAtoms]))
    (f := g) hg (a := a) (msg := msg) (rest := .ref a :: rest) hstack hd6
  cases Option.some.inj (hnC.symm.trans hP1m)
  have X₁ := X.noted hW₁
  obtain ⟨vm₂, X₂, st2⟩ := X₁.ctorMessageOffV hexec (g := { g with stack := .ref a :: rest }) hg hsize T L Z LZ M LM (P1 :: Ps)
    (fun P hP => by rcases List.mem_cons.mp hP with rfl | hP; exact L1; exact hL P hP) ⟨hlink1, hlink⟩ (u0 := u0) (sen := sen) (self := a) hmsg (cell := freshCell P1.m.cls kX) (cellS := cellS)
    hcell (fun _ => by simp) (by simp) rfl rfl hsel0 hselF hcellS hneS hknownS (by rw [hkeep _ (hout' _)]; exact hu0) (by rw [hkeep _ (hout' _)]; exact hsen)
    (Takes.of_laid hk hord tyC (by rw [Y.causeType]; rfl)) (Takes.of_laid hk hord tyS (by rw [Y.stackType]; exact fits_refV_array _ u0)) (Takes.of_laid hk hord tyP (by rw [Y.suppType]; exact fits_refV_object _ sen))
    (Takes.of_laid hk hord tyM (by rw [Y.msgType]; exact fits_refV_object _ ⟨msg, hmsg⟩)) Y.objLocals hskip htr [] hd6
    (by simp only [List.length_cons, hlen]; omega) (by simp only [List.length_cons, hlen]; exact hRlocals)
  have hlt : a < ((W.setVm vm₁).setVm vm₂).heap.size := (Array.getElem?_eq_some_iff.mp hcell).1
  refine ⟨(W.setVm vm₁).setVm vm₂, _, _, X₂, fun y hy => ?_, hlt, rfl, rfl, fun target hwalk => st1 _ (fun acts => ?_)⟩
  · simp only [List.mem_cons, List.not_mem_nil, or_false] at hy
    rcases hy with rfl | rfl | rfl | rfl | rfl <;> rfl
  · rw [doInvoke_state]
    exact st2 _ hwalk
set_option maxHeartbeats 1000000 in
theorem vx_ctorMade0 (X : Stand p l e R s m₀ args below meth c W locs cells slots) (hexec : p.tables.exec = Jvm.exec) (htr : e.platform.stackTraces = false) {own cls : String} {names : List String} {ic : Nat}
    (hown : s.vm.findClass own = some m₀.cls) (hcls : Bundle.fit cls = true) (hnames : ∀ n ∈ names, Bundle.fit n = true)
    (h : ∀ a ∈ Bundle.ownAtoms0 own ic cls names, a.before args s = true)
    (hlocs : ∀ x ∈ locs, ∀ cell, s.heap[x.base]? = some cell → cell.vm.isStatics = false)
    {a : Addr} {cX : ClassId} {kX : Class} (hfoundX : s.vm.findClass cls = some cX) (hkX : s.vm.classes[cX]? = some kX) (hcell : W.heap[a]? = some (freshCell cX kX)) (hnew : s.heap.size ≤ a)
    {g : JFrame} (hg : g.method = m₀) (hsize : g.locals.size = c.maxLocals) {rest : List Value} (hstack : g.stack = .ref a :: .ref a :: rest)
    (hd6 : decode c.code g.pc = .ok (.invokespecial ic, 3))
    (hRframes : names.length + 3 < R.frames) (hRlocals : 2 * g.monitorRoom + ((Value.ref a :: rest).map fun v => v.category).sum + (13 * (names.length + 1) + 41) ≤ R.locals) :
    ∃ (V : State) (ce : Cell) (L : List Loc), Stand p l e R s m₀ args below meth c (V.setCell a ce) (locs ++ L) cells slots ∧ (∀ y ∈ L, y.base = a) ∧ a < V.heap.size ∧ ce.cls = cX ∧ ce.vm = .none ∧
      ∀ target, Steps p.tables e below ((V.setCell a ce).setTop { g with stack := .ref a :: rest, pc := g.pc + 3 }) target → Steps p.tables e below (W.setTop g) target := by
  have howns : e.platform.frameOwnsMonitors = true := by rw [X.admits.platform]
  have hfin : e.platform.finalization = false := by rw [X.admits.platform]
  have hpl : e.platform.magicAccessors = ({} : Platform).magicAccessors := by rw [X.admits.platform]
  have a' : ∀ x, x ∈ Bundle.ownAtoms0 own ic cls names → x.holds args s none s [] = true := fun x hx => h x hx
  obtain ⟨T, Z, L, LZ, Y⟩ := ThrowableC.of_atoms (args := args) howns hfin hpl (fun x hx => h x (by simp [Bundle.ownAtoms0, hx]))
  obtain ⟨P1, Ps, hlen, L1, hL, hP1m, hlink1, hlink⟩ := Bundle.chain0 (args := args) hpl Y.init0 names cls hcls hnames (fun x hx => h x (by simp [Bundle.ownAtoms0, hx]))
  have hfound : s.vm.findClass cls = some P1.m.cls := findClass_of_methodNamed hP1m
  cases Option.some.inj (hfoundX.symm.trans hfound)
  obtain ⟨c1, kX', hc1, hk, hord, -, -, hn6⟩ := Cond.instantiable_spec (a' (.instantiable cls 6) (by simp [Bundle.ownAtoms0]))
  cases Option.some.inj (hc1.symm.trans hfound)
  cases Option.some.inj (hkX.symm.trans hk)
  have hsel0 : selectMethod e.platform s.vm P1.m.cls T.fill0 = .method T.fill0 := by
    obtain ⟨c2, r2, m2, q1, q2, q3, q4, -⟩ := Cond.selects_spec (a' (.selects cls Bundle.tFill0 Bundle.tFill0) (by simp [Bundle.ownAtoms0]))
    cases Option.some.inj (q1.symm.trans hfound)
    cases Option.some.inj (q2.symm.trans (State.methodFound?_of_named Y.fill0 (by decide)))
    cases Option.some.inj (q3.symm.trans Y.fill0)
    rw [Launch.admits_selectMethod X.admits]; exact q4
  have hselF : selectMethod e.platform s.vm P1.m.cls T.fill = .method T.fill := by
    obtain ⟨c2, r2, m2, q1, q2, q3, q4, -⟩ := Cond.selects_spec (a' (.selects cls Bundle.tFill Bundle.tFill) (by simp [Bundle.ownAtoms0]))
    cases Option.some.inj (q1.symm.trans hfound)
    cases Option.some.inj (q2.symm.trans (State.methodFound?_of_named Y.fill (by decide)))
    cases Option.some.inj (q3.symm.trans Y.fill)
    rw [Launch.admits_selectMethod X.admits]; exact q4
  obtain ⟨cellS0, hcS0, hiss⟩ := Y.statics
  obtain ⟨u0, hu0⟩ := Cond.staticRefV Y.unassigned L.unassignedStatic L.statics hcS0 hiss (a' (.isRef (.static Bundle.tN "UNASSIGNED_STACK" Bundle.steD)) (by simp [Bundle.ownAtoms0]))
  obtain ⟨sen, hsen⟩ := Cond.staticRefV Y.sentinel L.sentinelStatic L.statics hcS0 hiss (a' (.isRef (.static Bundle.tN "SUPPRESSED_SENTINEL" Bundle.listD)) (by simp [Bundle.ownAtoms0]))
  obtain ⟨ci198, i198, fB, hk198, hg198, ha198, hsB, -, hnB, htB, hffB⟩ := Cond.ownField (t := .object "java/lang/Object") Y.found L.cls (by decide +kernel) (a' (.fieldLink Bundle.tN 198 Bundle.tN "backtrace" "Ljava/lang/Object;") (by simp [Bundle.ownAtoms0])) (a' (.lays Bundle.tN Bundle.tN "backtrace" "Ljava/lang/Object;") (by simp [Bundle.ownAtoms0])) e.platform hpl
  obtain ⟨cellS, hcS', heS, -, hkeep⟩ := X.same.2.2.2.2.2 T.aS cellS0 hcS0
  have hcellS : W.heap[T.aS]? = some cellS := hcS'
  have hout' : ∀ i, (⟨T.aS, i⟩ : Loc) ∉ locs := fun i hmem => by
    have := hlocs _ hmem cellS0 hcS0
    rw [hiss] at this; cases this
  have hknownS : cellS.vm ≠ .unknown := by
    rw [heS]; intro hu
    rw [show cellS0.vm = .unknown from hu] at hiss
    cases hiss
  have hneS : T.aS ≠ a := Nat.ne_of_lt (Nat.lt_of_lt_of_le (Array.getElem?_eq_some_iff.mp hcS0).1 hnew)
  obtain ⟨iM, hffM⟩ := Y.msg
  obtain ⟨tyC, dC, hdC, hdnC⟩ := Cond.laysAt hfound hk Y.cause (a' (.lays cls Bundle.tN "cause" "Ljava/lang/Throwable;") (by simp [Bundle.ownAtoms0]))
  obtain ⟨tyS, dS, hdS, hdnS⟩ := Cond.laysAt hfound hk Y.stack (a' (.lays cls Bundle.tN "stackTrace" Bundle.steD) (by simp [Bundle.ownAtoms0]))
  obtain ⟨tyP, dP, hdP, hdnP⟩ := Cond.laysAt hfound hk Y.supp (a' (.lays cls Bundle.tN "suppressedExceptions" Bundle.listD) (by simp [Bundle.ownAtoms0]))
  obtain ⟨tyM, dM, hdM, hdnM⟩ := Cond.laysAt hfound hk hffM (a' (.lays cls Bundle.tN "detailMessage" "Ljava/lang/String;") (by simp [Bundle.ownAtoms0]))
  obtain ⟨tyB, dB, hdB, hdnB⟩ := Cond.laysAt hfound hk hffB (a' (.lays cls Bundle.tN "backtrace" "Ljava/lang/Object;") (by simp [Bundle.ownAtoms0]))
  have bC := Cond.laysApart hdB hdC hdnB hdnC (by rw [hnB, Y.causeName]; decide)
  have bS := Cond.laysApart hdB hdS hdnB hdnS (by rw [hnB, Y.stackName]; decide)
  have bP := Cond.laysApart hdB hdP hdnB hdnP (by rw [hnB, Y.suppName]; decide)
  have hskip : SkipFacts T e.platform s (fun u => u) u0 ((preparedCellV T.toThrowableT (freshCell P1.m.cls kX) a u0 sen).withEntry W.cur) :=
    ⟨{ ci198 := ci198, i198 := i198, fBack := fB }, ⟨hk198, hg198, ha198, hsB⟩, by
      have := fresh_default (c := P1.m.cls) tyB
      rw [htB] at this
      simpa [preparedCellV, Cell.setSlot, Cell.withEntry, Array.getElem?_setIfInBounds, bC, bS, bP, bC.symm, bS.symm, bP.symm, defaultValue] using this, fun _ _ => rfl⟩
  obtain ⟨tm, methC, cdC, kC, vm₁, hnC, -, -, -, -, -, -, -, hW₁, st1⟩ := Steps.initCold (tb := p.tables) (e := e) (below := below) (s := s) (U := W) X.here hexec X.warmed hpl hown (t := Bundle.init0 cls) rfl rfl (Bundle.fit_spec hcls).2
    (a' (.methodLink own ic (Bundle.init0 cls)) (by simp [Bundle.ownAtoms0])) (h (.instanceMethod (Bundle.init0 cls)) (by cases names <;> simp [Bundle.ownAtoms0, Bundle.chain0Atoms, Bundle.passAtoms])) (bytes := Bundle.five) (maxL := 1) (h (.code (Bundle.init0 cls) Bundle.five 1 none) (by cases names <;> simp [Bundle.ownAtoms0, Bundle.chain0Atoms, Bundle.passAtoms]))
    (f := g) hg (a := a) (rest := .ref a :: rest) hstack hd6
  cases Option.some.inj (hnC.symm.trans hP1m)
  have X₁ := X.noted hW₁
  obtain ⟨vm₂, X₂, st2⟩ := X₁.ctorPlainOffV hexec (g := { g with stack := .ref a :: rest }) hg hsize T L Z LZ (P1 :: Ps)
    (fun P hP => by rcases List.mem_cons.mp hP with rfl | hP; exact L1; exact hL P hP) ⟨hlink1, hlink⟩ (u0 := u0) (sen := sen) (self := a) (cell := freshCell P1.m.cls kX) (cellS := cellS)
    hcell (fun _ => by simp) (by simp) rfl rfl hsel0 hselF hcellS hneS hknownS (by rw [hkeep _ (hout' _)]; exact hu0) (by rw [hkeep _ (hout' _)]; exact hsen)
    (Takes.of_laid hk hord tyC (by rw [Y.causeType]; rfl)) (Takes.of_laid hk hord tyS (by rw [Y.stackType]; exact fits_refV_array _ u0)) (Takes.of_laid hk hord tyP (by rw [Y.suppType]; exact fits_refV_object _ sen)) Y.objLocals hskip htr [] hd6
    (by simp only [List.length_cons, hlen]; omega) (by simp only [List.length_cons, hlen]; exact hRlocals)
  have hlt : a < ((W.setVm vm₁).setVm vm₂).heap.size := (Array.getElem?_eq_some_iff.mp hcell).1
  refine ⟨(W.setVm vm₁).setVm vm₂, _, _, X₂, fun y hy => ?_, hlt, rfl, rfl, fun target hwalk => st1 _ (fun acts => ?_)⟩
  · simp only [List.mem_cons, List.not_mem_nil, or_false] at hy
    rcases hy with rfl | rfl | rfl | rfl <;> rfl
  · rw [doInvoke_state]
    exact st2 _ hwalk
end VXK
section VXK2
variable {p : Program} {l : Launch} {e : Env} {R : Room} {s : State} {m : MethodId} {args : Array Value} {below : List Frame} {meth : Method} {c : Code} {H : Heap} {locs : List Loc} {cells slots : Nat} {Q : State → Prop}
variable {ls : Array Slot} {rest : List Value} {D : va_G} {cl : List vw_C} {tys : List (ClassId × FieldType)} {ws : va_W}
/-- 'new E("text")' that isn't thrown at once: the object goes on the stack -/
theorem vx_makeS {cc : ByteArray} {pc : Nat} (hexec : p.tables.exec = Jvm.exec) (hb : c.code = cc) (hl : l.stackTraces = false) {own cls text : String} {names : List String} {ik is ic sa ci : Nat} {A : Nat → Prop} {T0 : u_T}
    (hown : s.vm.findClass own = some m.cls) (hcls : Bundle.fit cls = true) (hnames : ∀ n ∈ names, Bundle.fit n = true)
    (hk : (Cond.classLink own ik cls).before args s = true) (hini : (Cond.initialized cls).before args s = true) (hstr : vk_R own is text sa s) (hat : ∀ w ∈ vx_atS own ic cls names, w.before args s = true)
    (hgood : ∀ w ∈ Cond.classLink own ik cls :: Cond.initialized cls :: vx_atS own ic cls names, vx_ot w = true)
    (hU : vx_Zq Bundle.tN "UNASSIGNED_STACK" Bundle.steD A s s.heap) (hN : vx_Zq Bundle.tN "SUPPRESSED_SENTINEL" Bundle.listD A s s.heap) (hS : va_S A s.heap H locs) (hsize : ls.size = c.maxLocals)
    (d0 : decode cc pc = .ok (.new ik, 3)) (d3 : decode cc (pc + 3) = .ok (.dup, 1)) (d4 : decode cc (pc + 4) = .ok (.ldc is, 2)) (d6 : decode cc (pc + 6) = .ok (.invokespecial ic, 3))
    (hK : va_K D cl tys s) (hP : va_P D cl ws H) (hD : va_D A ws) (hA : ∀ q, s.heap.size ≤ q → A q) (hc : cl[ci]? = some (cls, T0, 0))
    (hRframes : names.length + 3 < R.frames) (hRlocals : (rest.map fun v => v.category).sum + (13 * (names.length + 1) + 43) ≤ R.locals) (hRcells : cells + 1 ≤ R.cells) (hRslots : slots + 6 ≤ R.slots)
    (kk : ∀ (q : Nat) (H1 : Heap), va_P D cl (ws ++ [(q, .inr (ci, []))]) H1 → va_D A (ws ++ [(q, .inr (ci, []))]) → va_S A s.heap H1 locs → W p l e R s m args below meth c H1 locs (cells + 1) (slots + 6) Q (F0 m (pc + 9) ls (.ref q :: rest))) :
    W p l e R s m args below meth c H locs cells slots Q (F0 m pc ls rest) := by
  intro T hT X
  subst hT
  have htr : e.platform.stackTraces = false := (show e.platform.stackTraces = l.stackTraces by rw [X.admits.platform]).trans hl
  have Y := vx_rebase X (R' := { frames := R.frames, locals := R.locals, cells := 1, slots := 6 }) (Nat.le_refl _) (Nat.le_refl _) hRcells hRslots
  obtain ⟨s', hA'⟩ : ∃ z, z = (T.setVm s.vm).setFrames (.invoking m args :: below) := ⟨_, rfl⟩
  rw [← hA'] at Y
  have hvm : s'.vm = s.vm := by rw [hA']; rfl
  have hhp : s'.heap = T.heap := by rw [hA']; rfl
  have hW0 : s.WarmedH s'.vm := by rw [hvm]; exact State.WarmedH.refl s
  have hat' : ∀ w ∈ vx_atS own ic cls names, w.before args s' = true := fun w hw => vx_ot_at hW0 hvm.symm (hgood w (List.mem_cons_of_mem _ (List.mem_cons_of_mem _ hw))) (hat w hw)
  have hk' : (Cond.classLink own ik cls).before args s' = true := vx_ot_at hW0 hvm.symm (hgood _ List.mem_cons_self) hk
  have hini' : (Cond.initialized cls).before args s' = true := vx_ot_at hW0 hvm.symm (hgood _ (List.mem_cons_of_mem _ List.mem_cons_self)) hini
  have hU' : vx_Zq Bundle.tN "UNASSIGNED_STACK" Bundle.steD A s' s'.heap := by rw [hhp]; exact vx_Zq.moved hW0.alike (hU.kept hS.2.1)
  have hN' : vx_Zq Bundle.tN "SUPPRESSED_SENTINEL" Bundle.listD A s' s'.heap := by rw [hhp]; exact vx_Zq.moved hW0.alike (hN.kept hS.2.1)
  have h : ∀ w ∈ Bundle.ownAtoms own ic cls names, w.before args s' = true := vx_own hat' (vx_isRefq hU'.1) (vx_isRefq hN'.1) hU'.2.word hN'.2.word
  have hown' : s'.vm.findClass own = some m.cls := by rw [hvm]; exact hown
  have hins : (Cond.instantiable cls 6).before args s' = true := h _ (by simp [Bundle.ownAtoms])
  obtain ⟨vm₁, cX, kX, hfX, hkX, -, -, X₁, st1⟩ := Y.newCold hexec (own := own) (C := cls) (index := ik) (n := 6) hown' hk' hins hini'
    (g := F0 m pc ls rest) rfl (by rw [hb]; exact d0) (Nat.le_refl _) (Nat.le_refl _)
  generalize hT1 : (T.setVm vm₁).pushCell { cls := cX, slots := kX.instanceTypes.map defaultValue, vm := .none } = T1 at X₁ st1
  have hcat : (Value.ref T.heap.size).category = 1 := rfl
  have hcellA : T1.heap[T.heap.size]? = some (freshCell cX kX) := by rw [← hT1]; exact State.heap_pushCell_size _ _
  have d3' : decode c.code (pc + 3) = .ok (.dup, 1) := by rw [hb]; exact d3
  have d4' : decode c.code (pc + 4) = .ok (.ldc is, 2) := by rw [hb]; exact d4
  have hstr' : vk_R own is text sa s' := vk_R.warm hW0 hstr
  obtain ⟨V, ce, L, Z, hL, hlt, hcl9, hvm9, st⟩ := vx_ctorMadeS X₁ hexec htr (own := own) (cls := cls) (names := names) (ic := ic) hown' hcls hnames h (fun x hx => nomatch hx) hfX hkX hcellA (by rw [hhp]; exact Nat.le_refl _) (msg := .ref sa) rfl
    (g := { method := m, pc := pc + 6, locals := ls, stack := .ref sa :: .ref T.heap.size :: .ref T.heap.size :: rest, locked := none }) rfl hsize (rest := rest) rfl
    (by rw [hb]; exact d6) hRframes (by simp only [List.map_cons, List.sum_cons, hcat]; omega)
  have Z0 := Stand.forget (locs := []) Z (fun y hy => by rw [hL y hy, hhp]; exact Nat.le_refl _)
  obtain ⟨f1, f2⟩ := vx_frame Z0.same
  rw [hhp] at f1 f2
  have hcid : ce.cls = D.1 ci := by
    rw [hcl9]
    have h1 := (hK.1 ci _ hc).2.1
    rw [hvm] at hfX
    exact Option.some.inj (hfX.symm.trans h1)
  have hh : (V.setCell T.heap.size ce).heap[T.heap.size]? = some ce := heapAt_setCell_self (s := V) ce hlt
  subst hA'
  have X5 := vx_back9 X Y Z0
  have X6 : Stand p l e R s m args below meth c (V.setCell T.heap.size ce) locs (cells + 1) (slots + 6) := { X5 with same := X5.same.mono (by omega) (by omega) }
  have hk9 : ∀ (k : Nat) (x : Nat × va_E), ws[k]? = some x → (V.setCell T.heap.size ce).heap[x.1]? = T.heap[x.1]? := fun k x hx => f2 x.1 ((hP k x hx).lt) (fun z hz => nomatch hz)
  obtain ⟨t, a1, b1⟩ := kk T.heap.size (V.setCell T.heap.size ce).heap ((hP.kept hk9).app (fun k x hx => by
      have hz : k < 1 := (List.getElem?_eq_some_iff.mp hx).1
      rw [show k = 0 by omega] at hx
      cases hx
      exact ⟨_, hc, ce, hh, hcid, hvm9, fun k hk => absurd hk (Nat.not_lt_zero k)⟩)) (hD.push hP rfl (hA _ hS.1)) ⟨Nat.le_trans hS.1 f1, fun q h1 h2 => (f2 q (Nat.lt_of_lt_of_le h1 hS.1) (fun z hz => nomatch hz)).trans (hS.2.1 q h1 h2), hS.2.2⟩ _ rfl X6
  refine ⟨t, st1 _ ?_, b1⟩
  show Steps p.tables e below (T1.setTop { method := m, pc := pc + 3, locals := ls, stack := .ref T.heap.size :: rest, locked := none }) _
  jvm_step X₁.here [X₁.here.top, hexec, d3', Value.category]
  exact X₁.ldcString hexec (own := own) (text := text) (index := is) (a := sa) hown' hstr'.1 hstr'.2
    (g := { method := m, pc := pc + 4, locals := ls, stack := .ref T.heap.size :: .ref T.heap.size :: rest, locked := none }) rfl d4' _ (st _ a1)
/-- 'new E()' that isn't thrown at once: the object goes on the stack -/
theorem vx_make0 {cc : ByteArray} {pc : Nat} (hexec : p.tables.exec = Jvm.exec) (hb : c.code = cc) (hl : l.stackTraces = false) {own cls : String} {names : List String} {ik ic ci : Nat} {A : Nat → Prop} {T0 : u_T}
    (hown : s.vm.findClass own = some m.cls) (hcls : Bundle.fit cls = true) (hnames : ∀ n ∈ names, Bundle.fit n = true)
    (hk : (Cond.classLink own ik cls).before args s = true) (hini : (Cond.initialized cls).before args s = true) (hat : ∀ w ∈ vx_at0 own ic cls names, w.before args s = true)
    (hgood : ∀ w ∈ Cond.classLink own ik cls :: Cond.initialized cls :: vx_at0 own ic cls names, vx_ot w = true)
    (hU : vx_Zq Bundle.tN "UNASSIGNED_STACK" Bundle.steD A s s.heap) (hN : vx_Zq Bundle.tN "SUPPRESSED_SENTINEL" Bundle.listD A s s.heap) (hS : va_S A s.heap H locs) (hsize : ls.size = c.maxLocals)
    (d0 : decode cc pc = .ok (.new ik, 3)) (d3 : decode cc (pc + 3) = .ok (.dup, 1)) (d4 : decode cc (pc + 4) = .ok (.invokespecial ic, 3))
    (hK : va_K D cl tys s) (hP : va_P D cl ws H) (hD : va_D A ws) (hA : ∀ q, s.heap.size ≤ q → A q) (hc : cl[ci]? = some (cls, T0, 0))
    (hRframes : names.length + 3 < R.frames) (hRlocals : (rest.map fun v => v.category).sum + (13 * (names.length + 1) + 42) ≤ R.locals) (hRcells : cells + 1 ≤ R.cells) (hRslots : slots + 6 ≤ R.slots)
    (kk : ∀ (q : Nat) (H1 : Heap), va_P D cl (ws ++ [(q, .inr (ci, []))]) H1 → va_D A (ws ++ [(q, .inr (ci, []))]) → va_S A s.heap H1 locs → W p l e R s m args below meth c H1 locs (cells + 1) (slots + 6) Q (F0 m (pc + 7) ls (.ref q :: rest))) :
    W p l e R s m args below meth c H locs cells slots Q (F0 m pc ls rest) := by
  intro T hT X
  subst hT
  have htr : e.platform.stackTraces = false := (show e.platform.stackTraces = l.stackTraces by rw [X.admits.platform]).trans hl
  have Y := vx_rebase X (R' := { frames := R.frames, locals := R.locals, cells := 1, slots := 6 }) (Nat.le_refl _) (Nat.le_refl _) hRcells hRslots
  obtain ⟨s', hA'⟩ : ∃ z, z = (T.setVm s.vm).setFrames (.invoking m args :: below) := ⟨_, rfl⟩
  rw [← hA'] at Y
  have hvm : s'.vm = s.vm := by rw [hA']; rfl
  have hhp : s'.heap = T.heap := by rw [hA']; rfl
  have hW0 : s.WarmedH s'.vm := by rw [hvm]; exact State.WarmedH.refl s
  have hat' : ∀ w ∈ vx_at0 own ic cls names, w.before args s' = true := fun w hw => vx_ot_at hW0 hvm.symm (hgood w (List.mem_cons_of_mem _ (List.mem_cons_of_mem _ hw))) (hat w hw)
  have hk' : (Cond.classLink own ik cls).before args s' = true := vx_ot_at hW0 hvm.symm (hgood _ List.mem_cons_self) hk
  have hini' : (Cond.initialized cls).before args s' = true := vx_ot_at hW0 hvm.symm (hgood _ (List.mem_cons_of_mem _ List.mem_cons_self)) hini
  have hU' : vx_Zq Bundle.tN "UNASSIGNED_STACK" Bundle.steD A s' s'.heap := by rw [hhp]; exact vx_Zq.moved hW0.alike (hU.kept hS.2.1)
  have hN' : vx_Zq Bundle.tN "SUPPRESSED_SENTINEL" Bundle.listD A s' s'.heap := by rw [hhp]; exact vx_Zq.moved hW0.alike (hN.kept hS.2.1)
  have h : ∀ w ∈ Bundle.ownAtoms0 own ic cls names, w.before args s' = true := vx_own hat' (vx_isRefq hU'.1) (vx_isRefq hN'.1) hU'.2.word hN'.2.word
  have hown' : s'.vm.findClass own = some m.cls := by rw [hvm]; exact hown
  have hins : (Cond.instantiable cls 6).before args s' = true := h _ (by simp [Bundle.ownAtoms0])
  obtain ⟨vm₁, cX, kX, hfX, hkX, -, -, X₁, st1⟩ := Y.newCold hexec (own := own) (C := cls) (index := ik) (n := 6) hown' hk' hins hini'
    (g := F0 m pc ls rest) rfl (by rw [hb]; exact d0) (Nat.le_refl _) (Nat.le_refl _)
  generalize hT1 : (T.setVm vm₁).pushCell { cls := cX, slots := kX.instanceTypes.map defaultValue, vm := .none } = T1 at X₁ st1
  have hcat : (Value.ref T.heap.size).category = 1 := rfl
  have hcellA : T1.heap[T.heap.size]? = some (freshCell cX kX) := by rw [← hT1]; exact State.heap_pushCell_size _ _
  have d3' : decode c.code (pc + 3) = .ok (.dup, 1) := by rw [hb]; exact d3
  obtain ⟨V, ce, L, Z, hL, hlt, hcl9, hvm9, st⟩ := vx_ctorMade0 X₁ hexec htr (own := own) (cls := cls) (names := names) (ic := ic) hown' hcls hnames h (fun x hx => nomatch hx) hfX hkX hcellA (by rw [hhp]; exact Nat.le_refl _)
    (g := { method := m, pc := pc + 4, locals := ls, stack := .ref T.heap.size :: .ref T.heap.size :: rest, locked := none }) rfl hsize (rest := rest) rfl
    (by rw [hb]; exact d4) hRframes (by simp only [List.map_cons, List.sum_cons, hcat]; omega)
  have Z0 := Stand.forget (locs := []) Z (fun y hy => by rw [hL y hy, hhp]; exact Nat.le_refl _)
  obtain ⟨f1, f2⟩ := vx_frame Z0.same
  rw [hhp] at f1 f2
  have hcid : ce.cls = D.1 ci := by
    rw [hcl9]
    have h1 := (hK.1 ci _ hc).2.1
    rw [hvm] at hfX
    exact Option.some.inj (hfX.symm.trans h1)
  have hh : (V.setCell T.heap.size ce).heap[T.heap.size]? = some ce := heapAt_setCell_self (s := V) ce hlt
  subst hA'
  have X5 := vx_back9 X Y Z0
  have X6 : Stand p l e R s m args below meth c (V.setCell T.heap.size ce) locs (cells + 1) (slots + 6) := { X5 with same := X5.same.mono (by omega) (by omega) }
  have hk9 : ∀ (k : Nat) (x : Nat × va_E), ws[k]? = some x → (V.setCell T.heap.size ce).heap[x.1]? = T.heap[x.1]? := fun k x hx => f2 x.1 ((hP k x hx).lt) (fun z hz => nomatch hz)
  obtain ⟨t, a1, b1⟩ := kk T.heap.size (V.setCell T.heap.size ce).heap ((hP.kept hk9).app (fun k x hx => by
      have hz : k < 1 := (List.getElem?_eq_some_iff.mp hx).1
      rw [show k = 0 by omega] at hx
      cases hx
      exact ⟨_, hc, ce, hh, hcid, hvm9, fun k hk => absurd hk (Nat.not_lt_zero k)⟩)) (hD.push hP rfl (hA _ hS.1)) ⟨Nat.le_trans hS.1 f1, fun q h1 h2 => (f2 q (Nat.lt_of_lt_of_le h1 hS.1) (fun z hz => nomatch hz)).trans (hS.2.1 q h1 h2), hS.2.2⟩ _ rfl X6
  refine ⟨t, st1 _ ?_, b1⟩
  show Steps p.tables e below (T1.setTop { method := m, pc := pc + 3, locals := ls, stack := .ref T.heap.size :: rest, locked := none }) _
  jvm_step X₁.here [X₁.here.top, hexec, d3', Value.category]
  exact st _ a1
/-- 'throw x' of an object that was made before -/
theorem vx_athrow {cc : ByteArray} {pc : Nat} (hexec : p.tables.exec = Jvm.exec) (hb : c.code = cc) {q : Addr} (hdg : decode cc pc = .ok (.athrow, 1)) (k : vx_W p l e R s m args below meth c H locs cells slots Q (F0 m pc ls rest) q) : W p l e R s m args below meth c H locs cells slots Q (F0 m pc ls (.ref q :: rest)) := by
  intro T hT X
  obtain ⟨t, st, hq⟩ := k T hT X
  refine ⟨t, ?_, hq⟩
  have hdg' : decode c.code pc = .ok (.athrow, 1) := by rw [hb]; exact hdg
  jvm_step X.here [X.here.top, hexec, hdg', athrow.wp_sem]
  exact st
end VXK2
/-! ===== END ===== -/
/-! ===== BEGIN a constructor that throws (launches without stack traces) ===== -/
section VXIA
variable {p : Program} {l : Launch} {e : Env} {R : Room} {s : State} {m : MethodId} {args : Array Value} {below : List Frame} {meth : Method} {c : Code} {T : State} {locs : List Loc} {cells slots : Nat}
theorem vx_callI (X : Stand p l e R s m args below meth c T locs cells slots) (hexec : p.tables.exec = Jvm.exec) {own : String} {index : Nat} {y : MethodName} {bytes : ByteArray} {maxL : Nat}
    (hown : s.vm.findClass own = some m.cls) (hy1 : y.name = "<init>") (hlink : (Cond.methodLink own index y).before args s = true) (hinst : (Cond.instanceMethod y).before args s = true)
    (hcode : (Cond.code y bytes maxL none).before args s = true) (hy : y.cls ≠ "java/lang/invoke/MethodHandle" ∧ y.cls ≠ "java/lang/invoke/VarHandle")
    {W9 : Nat} {Pre : Pt → Array Value → Prop} {Post : Pt → Array Value → Option Value → Pt → Prop} {PostX : Pt → Array Value → Addr → Pt → Prop} (hK : vx_Back l R p e below s args y 3 W9 Pre Post PostX)
    {g : JFrame} (hg : g.method = m) (hsize : g.locals.size = c.maxLocals) {a : Addr} {argsL rest : List Value} (hlen : ∀ sig, parseMethodDescriptor y.desc = some sig → argsL.length = sig.parameters.length)
    (hstack : g.stack = argsL.reverse ++ .ref a :: rest) (hW : 2 * g.monitorRoom + (rest.map fun v => v.category).sum ≤ W9) (hdg : decode c.code g.pc = .ok (.invokespecial index, 3))
    (hpre : ∀ vm₁, s.WarmedH vm₁ → Pre ⟨T.setVm vm₁, locs, cells, slots⟩ (Value.ref a :: argsL).toArray) :
    (∃ (v : Option Value) (vm₁ : Vm) (B : Pt), s.WarmedH vm₁ ∧ Stand p l e R s m args below meth c B.U B.locs B.cells B.slots ∧ Post ⟨T.setVm vm₁, locs, cells, slots⟩ (Value.ref a :: argsL).toArray v B ∧
      ∀ target, Steps p.tables e below (B.U.setTop { g with pc := g.pc + 3, stack := v.toList ++ rest }) target → Steps p.tables e below (T.setTop g) target) ∨
    (∃ (q : Addr) (vm₁ : Vm) (B : Pt), s.WarmedH vm₁ ∧ Stand p l e R s m args below meth c B.U B.locs B.cells B.slots ∧ PostX ⟨T.setVm vm₁, locs, cells, slots⟩ (Value.ref a :: argsL).toArray q B ∧
      Steps p.tables e below (T.setTop g) ((B.U.setTop { g with stack := rest }).pushFrame (.throwing q))) := by
  subst hg
  have hpl : e.platform.magicAccessors = ({} : Platform).magicAccessors := by rw [X.admits.platform]
  obtain ⟨mk, methM, cM, kP, vm₁, hnamed, hmethM, hcodeM, -, hlocalsM, -, hkP, -, hW₁, hstep₁⟩ := Steps.initColdArgs (e := e) X.here hexec X.warmed hpl hown hy1 hy hlink hinst hcode (f := g) rfl hlen hstack hdg
  have X₁ := X.noted hW₁
  rcases hK g.method meth c ⟨T.setVm vm₁, locs, cells, slots⟩ { g with stack := rest } (.invokespecial index) mk (Value.ref a :: argsL).toArray X₁ rfl hsize hdg hW (X₁.named hnamed) (hpre vm₁ X₁.warmed) with ⟨v, B, X', hpost, hsteps⟩ | ⟨q, B, X', hpost, hsteps⟩
  · exact Or.inl ⟨v, vm₁, B, X₁.warmed, X', hpost, fun target h => hstep₁ _ fun acts => by rw [doInvoke_state]; exact hsteps.trans h⟩
  · exact Or.inr ⟨q, vm₁, B, X₁.warmed, X', hpost, hstep₁ _ fun acts => by rw [doInvoke_state]; exact hsteps⟩
end VXIA
section VXIB
variable {p : Program} {l : Launch} {e : Env} {R : Room} {s : State} {m : MethodId} {args : Array Value} {below : List Frame} {meth : Method} {c : Code} {H : Heap} {locs : List Loc} {cells slots : Nat}
variable {y : MethodName} {bytes cc : ByteArray} {maxL nL mc ms n index : Nat} {ret : Option FieldType} {ws : List Cond} {rm : Room} {Pc : Array Value → State → Prop} {Qc : Array Value → State → Outcome → State → Prop} {XC : String → State → State → Prop} {free : Addr → Prop} {Ts : List Cond} {own C : String} {b : Addr} {As rest : List Value} {g : JFrame}
theorem vx_runI (S : CallFix p m c cc nL s args Ts own) (hM : vx_Met l y ws rm Pc Qc XC mc ms free) (cw : CallB R s args own index y bytes maxL none ws rm mc ms n ∧ y.name = "<init>" ∧ (Cond.instanceMethod y).before args s = true) (hp : PreS s H Pc (.ref b :: As))
    (hg : g.method = m) (hn : As.length = n) (hsize : g.locals.size = nL) (hstack : g.stack = As.reverse ++ .ref b :: rest) (hW : 2 * g.monitorRoom + (rest.map fun v => v.category).sum ≤ 8) (hdg : decode cc g.pc = .ok (.invokespecial index, 3)) (hf : cells + mc ≤ R.cells ∧ slots + ms ≤ R.slots) :
    vx_Run p l e R s m args below meth c H locs cells slots mc ms g rest (Qc (Value.ref b :: As).toArray) XC free := by
  have hK : vx_Back l R p e below s args y 3 8 (PreOf R mc ms Pc) (PostOf Qc mc ms free) (vx_Post XC mc ms free) := vx_callBack cw.1 hM hp.1
  obtain ⟨⟨-, -, -, -, -, -, hcode, -, hy, hlen, hl⟩, hy1, hin⟩ := cw
  obtain ⟨hx, hb, hml, ho, -⟩ := S
  have hPc := hp.2
  intro T hT X
  rcases vx_callI X hx (bytes := bytes) (maxL := maxL) ho hy1 hl hin hcode hy hK hg (hsize.trans hml.symm) (a := b) (argsL := As) (rest := rest) (fun sig h => hn.trans (hlen sig h)) hstack hW (by rw [hb]; exact hdg)
    (fun vm₁ hW₁ => ⟨hf.1, hf.2, hPc (T.setVm vm₁) hT hW₁⟩) with ⟨v, vm₁, ⟨U', l2, c2, s2⟩, hW₁, X', ⟨g', mk, t, L, e1, e2, hq, h1, hL, h2, h3⟩, st⟩ | ⟨q, vm₁, ⟨U', l2, c2, s2⟩, hW₁, X', ⟨g', mk, t, L, E, ce, e1, e2, hq, hce, hcv, hcl, h1, hL, h2, h3⟩, st⟩
  · dsimp only [Pt.U, Pt.locs, Pt.cells, Pt.slots] at X' e1 e2 h1 h2 h3 st
    subst h1; subst h2; subst h3
    exact Or.inl ⟨v, (T.setVm vm₁).calling g' mk (Value.ref b :: As).toArray, t, U', L, hT, X', hL, e1, e2, hq, st⟩
  · dsimp only [Pt.U, Pt.locs, Pt.cells, Pt.slots] at X' e1 e2 h1 h2 h3 st hcl
    subst h1; subst h2; subst h3
    exact Or.inr ⟨q, (T.setVm vm₁).calling g' mk (Value.ref b :: As).toArray, t, U', L, E, ce, hT, X', hL, e1, e2, hq, hce, hcv, vx_cls hW₁ hcl, st⟩
end VXIB
/-! ===== END ===== -/
/-! ===== BEGIN a private constructor of a nest mate that throws ===== -/
section VXIC
variable {p : Program} {l : Launch} {e : Env} {R : Room} {s : State} {m : MethodId} {args : Array Value} {below : List Frame} {meth : Method} {c : Code} {T : State} {locs : List Loc} {cells slots : Nat}
theorem vx_callIN (X : Stand p l e R s m args below meth c T locs cells slots) (hexec : p.tables.exec = Jvm.exec) {own : String} {index : Nat} {host : String} {y : MethodName} {bytes : ByteArray} {maxL : Nat}
    (hown : s.vm.findClass own = some m.cls) (hy1 : y.name = "<init>") (hlink : (Cond.methodLinkNest own index y host).before args s = true) (hinst : (Cond.instanceMethod y).before args s = true)
    (hcode : (Cond.code y bytes maxL none).before args s = true) (hy : y.cls ≠ "java/lang/invoke/MethodHandle" ∧ y.cls ≠ "java/lang/invoke/VarHandle")
    {W9 : Nat} {Pre : Pt → Array Value → Prop} {Post : Pt → Array Value → Option Value → Pt → Prop} {PostX : Pt → Array Value → Addr → Pt → Prop} (hK : vx_Back l R p e below s args y 3 W9 Pre Post PostX)
    {g : JFrame} (hg : g.method = m) (hsize : g.locals.size = c.maxLocals) {a : Addr} {argsL rest : List Value} (hlen : ∀ sig, parseMethodDescriptor y.desc = some sig → argsL.length = sig.parameters.length)
    (hstack : g.stack = argsL.reverse ++ .ref a :: rest) (hW : 2 * g.monitorRoom + (rest.map fun v => v.category).sum ≤ W9) (hdg : decode c.code g.pc = .ok (.invokespecial index, 3))
    (hpre : ∀ vm₁, s.WarmedH vm₁ → Pre ⟨T.setVm vm₁, locs, cells, slots⟩ (Value.ref a :: argsL).toArray) :
    (∃ (v : Option Value) (vm₁ : Vm) (B : Pt), s.WarmedH vm₁ ∧ Stand p l e R s m args below meth c B.U B.locs B.cells B.slots ∧ Post ⟨T.setVm vm₁, locs, cells, slots⟩ (Value.ref a :: argsL).toArray v B ∧
      ∀ target, Steps p.tables e below (B.U.setTop { g with pc := g.pc + 3, stack := v.toList ++ rest }) target → Steps p.tables e below (T.setTop g) target) ∨
    (∃ (q : Addr) (vm₁ : Vm) (B : Pt), s.WarmedH vm₁ ∧ Stand p l e R s m args below meth c B.U B.locs B.cells B.slots ∧ PostX ⟨T.setVm vm₁, locs, cells, slots⟩ (Value.ref a :: argsL).toArray q B ∧
      Steps p.tables e below (T.setTop g) ((B.U.setTop { g with stack := rest }).pushFrame (.throwing q))) := by
  subst hg
  have hpl : e.platform.magicAccessors = ({} : Platform).magicAccessors := by rw [X.admits.platform]
  obtain ⟨mk, methM, cM, kP, vm₁, hnamed, hmethM, hcodeM, -, hlocalsM, -, hkP, -, hW₁, hstep₁⟩ := Steps.initColdArgsNest (e := e) X.here hexec X.warmed hpl hown hy1 hy hlink hinst hcode (f := g) rfl hlen hstack hdg
  have X₁ := X.noted hW₁
  rcases hK g.method meth c ⟨T.setVm vm₁, locs, cells, slots⟩ { g with stack := rest } (.invokespecial index) mk (Value.ref a :: argsL).toArray X₁ rfl hsize hdg hW (X₁.named hnamed) (hpre vm₁ X₁.warmed) with ⟨v, B, X', hpost, hsteps⟩ | ⟨q, B, X', hpost, hsteps⟩
  · exact Or.inl ⟨v, vm₁, B, X₁.warmed, X', hpost, fun target h => hstep₁ _ fun acts => by rw [doInvoke_state]; exact hsteps.trans h⟩
  · exact Or.inr ⟨q, vm₁, B, X₁.warmed, X', hpost, hstep₁ _ fun acts => by rw [doInvoke_state]; exact hsteps⟩
end VXIC
section VXID
variable {p : Program} {l : Launch} {e : Env} {R : Room} {s : State} {m : MethodId} {args : Array Value} {below : List Frame} {meth : Method} {c : Code} {H : Heap} {locs : List Loc} {cells slots : Nat}
theorem vx_runIN {y : MethodName} {bytes cc : ByteArray} {maxL nL mc ms n index : Nat} {ws : List Cond} {rm : Room} {Pc : Array Value → State → Prop} {Qc : Array Value → State → Outcome → State → Prop} {XC : String → State → State → Prop} {free : Addr → Prop} {Ts : List Cond} {own host : String} {b : Addr} {As rest : List Value} {g : JFrame}
    (S : CallFix p m c cc nL s args Ts own) (hM : vx_Met l y ws rm Pc Qc XC mc ms free) (cw : va_CN R s args own index y host bytes maxL none ws rm mc ms n ∧ y.name = "<init>" ∧ (Cond.instanceMethod y).before args s = true) (hp : PreS s H Pc (.ref b :: As))
    (hg : g.method = m) (hn : As.length = n) (hsize : g.locals.size = nL) (hstack : g.stack = As.reverse ++ .ref b :: rest) (hW : 2 * g.monitorRoom + (rest.map fun v => v.category).sum ≤ 8) (hdg : decode cc g.pc = .ok (.invokespecial index, 3)) (hf : cells + mc ≤ R.cells ∧ slots + ms ≤ R.slots) :
    vx_Run p l e R s m args below meth c H locs cells slots mc ms g rest (Qc (Value.ref b :: As).toArray) XC free := by
  obtain ⟨⟨⟨hrc, hrs, hfr, hlo, hws, hcw⟩, hcode, hini, hy, hlen, hl⟩, hx1, hx2⟩ := cw
  have hK : vx_Back l R p e below s args y 3 8 (PreOf R mc ms Pc) (PostOf Qc mc ms free) (vx_Post XC mc ms free) := vx_back (bytes := bytes) (maxL := maxL) (ret := none) hM hp.1 hrc hrs hfr hlo hws hcw (fun a' U hW => word_at hW (Or.inl (by first | rfl | simp [Cond.onTables, Cond.keeps, Cond.steady])) hini)
  obtain ⟨hx, hb, hml, ho, -⟩ := S
  have hPc := hp.2
  intro T hT X
  rcases vx_callIN X hx (bytes := bytes) (maxL := maxL) ho hx1 hl hx2 hcode hy hK hg (hsize.trans hml.symm) (a := b) (argsL := As) (rest := rest) (fun sig h => hn.trans (hlen sig h)) hstack hW (by rw [hb]; exact hdg)
    (fun vm₁ hW₁ => ⟨hf.1, hf.2, hPc (T.setVm vm₁) hT hW₁⟩) with ⟨v, vm₁, ⟨U', l2, c2, s2⟩, hW₁, X', ⟨g', mk, t, L, e1, e2, hq, h1, hL, h2, h3⟩, st⟩ | ⟨q, vm₁, ⟨U', l2, c2, s2⟩, hW₁, X', ⟨g', mk, t, L, E, ce, e1, e2, hq, hce, hcv, hcl, h1, hL, h2, h3⟩, st⟩
  · dsimp only [Pt.U, Pt.locs, Pt.cells, Pt.slots] at X' e1 e2 h1 h2 h3 st
    subst h1; subst h2; subst h3
    exact Or.inl ⟨v, (T.setVm vm₁).calling g' mk (Value.ref b :: As).toArray, t, U', L, hT, X', hL, e1, e2, hq, st⟩
  · dsimp only [Pt.U, Pt.locs, Pt.cells, Pt.slots] at X' e1 e2 h1 h2 h3 st hcl
    subst h1; subst h2; subst h3
    exact Or.inr ⟨q, (T.setVm vm₁).calling g' mk (Value.ref b :: As).toArray, t, U', L, E, ce, hT, X', hL, e1, e2, hq, hce, hcv, vx_cls hW₁ hcl, st⟩
end VXID
/-! ===== END ===== -/
/-! ===== BEGIN a method of a class above, found by the receiver, that may throw (follows va_callVU, va_runU of this kit) ===== -/
section
variable {p : Program} {l : Launch} {e : Env} {R : Room} {s : State} {m : MethodId} {args : Array Value} {below : List Frame} {meth : Method} {c : Code} {H : Heap} {locs : List Loc} {cells slots : Nat}
theorem vx_callVU {T : State} {locs : List Loc} {cells slots : Nat} (X : Stand p l e R s m args below meth c T locs cells slots) (hexec : p.tables.exec = Jvm.exec) {own C owner : String} {index : Nat} {x y : MethodName} {bytes : ByteArray} {maxL : Nat} {ret : Option FieldType}
    (hown : s.vm.findClass own = some m.cls) (hlink : (Cond.methodLink own index x).before args s = true) (hsame : (Cond.sameMethod x.cls owner x.name x.desc).before args s = true)
    (hd0 : va_Decl s ⟨owner, x.name, x.desc⟩) (howner : owner ≠ "java/lang/invoke/MethodHandle" ∧ owner ≠ "java/lang/invoke/VarHandle")
    (hsel : (Cond.selects C x y).before args s = true) (hinst : (Cond.instanceMethod y).before args s = true) (hcode : (Cond.code y bytes maxL ret).before args s = true)
    {W : Nat} {Pre : Pt → Array Value → Prop} {Post : Pt → Array Value → Option Value → Pt → Prop} {PostX : Pt → Array Value → Addr → Pt → Prop} (hK : vx_Back l R p e below s args y 3 W Pre Post PostX)
    {b : Addr} {cellB : Cell} (hcell : T.heap[b]? = some cellB) (hobj : cellB.vm.isStatics = false) (hcls : s.vm.findClass C = some cellB.cls)
    {g : JFrame} (hg : g.method = m) (hsize : g.locals.size = c.maxLocals) {argsL rest : List Value} (hlen : ∀ sig, parseMethodDescriptor x.desc = some sig → argsL.length = sig.parameters.length)
    (hstack : g.stack = argsL.reverse ++ .ref b :: rest) (hW : 2 * g.monitorRoom + (rest.map fun v => v.category).sum ≤ W) (hdg : decode c.code g.pc = .ok (.invokevirtual index, 3))
    (hpre : ∀ vm₁, s.WarmedH vm₁ → Pre ⟨T.setVm vm₁, locs, cells, slots⟩ (Value.ref b :: argsL).toArray) :
    (∃ (v : Option Value) (vm₁ : Vm) (B : Pt), s.WarmedH vm₁ ∧ Stand p l e R s m args below meth c B.U B.locs B.cells B.slots ∧ Post ⟨T.setVm vm₁, locs, cells, slots⟩ (Value.ref b :: argsL).toArray v B ∧
      ∀ target, Steps p.tables e below (B.U.setTop { g with pc := g.pc + 3, stack := v.toList ++ rest }) target → Steps p.tables e below (T.setTop g) target) ∨
    (∃ (q : Addr) (vm₁ : Vm) (B : Pt), s.WarmedH vm₁ ∧ Stand p l e R s m args below meth c B.U B.locs B.cells B.slots ∧ PostX ⟨T.setVm vm₁, locs, cells, slots⟩ (Value.ref b :: argsL).toArray q B ∧
      Steps p.tables e below (T.setTop g) ((B.U.setTop { g with stack := rest }).pushFrame (.throwing q))) := by
  obtain ⟨r0, r, hn, hrm, hstR, hsigR⟩ := hd0
  obtain ⟨cn, ck, r1, hcn, hck, hni, hf, hn1⟩ := Cond.sameMethod_found hsame
  cases hn.symm.trans hn1
  obtain ⟨mk, methM, hnamed, hmethM, -, habM⟩ := Cond.instanceMethod_spec hinst
  obtain ⟨c2, r2, m2, q1, q2, q3, q4, kP, hkP, hkPi⟩ := Cond.selects_spec hsel
  cases hcls.symm.trans q1
  cases hf.symm.trans q2
  cases hnamed.symm.trans q3
  have hselP : selectMethod e.platform s.vm cellB.cls r0 = .method mk := by rw [Launch.admits_selectMethod X.admits]; exact q4
  obtain ⟨vm₁, X₁, hstep₁⟩ := X.invokevirtualUp hexec hown hlink hsame howner hn hrm hstR (a := b) (cell := cellB) hcell
    (fun z h => by rw [h] at hobj; cases hobj) hselP hmethM habM hkP hkPi (g := g) hg (argsL := argsL) (rest := rest) (hlen _ hsigR) hstack hdg
  rcases hK m meth c ⟨T.setVm vm₁, locs, cells, slots⟩ { g with stack := rest } (.invokevirtual index) mk (Value.ref b :: argsL).toArray X₁ hg hsize hdg hW (X₁.named hnamed) (hpre vm₁ X₁.warmed) with ⟨v, B, X', hpost, hsteps⟩ | ⟨q, B, X', hpost, hsteps⟩
  · exact Or.inl ⟨v, vm₁, B, X₁.warmed, X', hpost, fun target h => hstep₁ _ fun acts => by rw [doInvoke_state]; exact hsteps.trans h⟩
  · exact Or.inr ⟨q, vm₁, B, X₁.warmed, X', hpost, hstep₁ _ fun acts => by rw [doInvoke_state]; exact hsteps⟩
theorem vx_runU {x y : MethodName} {bytes cc : ByteArray} {maxL nL mc ms n index : Nat} {ret : Option FieldType} {ws : List Cond} {rm : Room} {Pc : Array Value → State → Prop} {Qc : Array Value → State → Outcome → State → Prop} {XC : String → State → State → Prop} {free : Addr → Prop} {Ts : List Cond} {own C owner : String} {b : Addr} {As rest : List Value} {g : JFrame}
    (S : CallFix p m c cc nL s args Ts own) (hM : vx_Met l y ws rm Pc Qc XC mc ms free) (cw : va_CU R s args own C owner index x y bytes maxL ret ws rm mc ms n) (hp : PreV s H C b Pc As)
    (hg : g.method = m) (hn : As.length = n) (hsize : g.locals.size = nL) (hstack : g.stack = As.reverse ++ .ref b :: rest) (hW : 2 * g.monitorRoom + (rest.map fun v => v.category).sum ≤ 8) (hdg : decode cc g.pc = .ok (.invokevirtual index, 3)) (hf : cells + mc ≤ R.cells ∧ slots + ms ≤ R.slots) :
    vx_Run p l e R s m args below meth c H locs cells slots mc ms g rest (Qc (Value.ref b :: As).toArray) XC free := by
  obtain ⟨hrc, hrs, hfr, hlo, hws, hcw⟩ := cw.back
  have hini := cw.init
  have hK : vx_Back l R p e below s args y 3 8 (PreOf R mc ms Pc) (PostOf Qc mc ms free) (vx_Post XC mc ms free) := vx_back (bytes := bytes) (maxL := maxL) (ret := ret) hM hp.1 hrc hrs hfr hlo hws hcw (fun a' U hW => word_at hW (Or.inl (by first | rfl | simp [Cond.onTables, Cond.keeps, Cond.steady])) hini)
  obtain ⟨hx, hb, hml, ho, -⟩ := S
  obtain ⟨-, ⟨cellB, hcB, hoB, hclB⟩, hPc⟩ := hp
  intro T hT X
  rcases vx_callVU X hx (C := C) (owner := owner) (bytes := bytes) (maxL := maxL) (ret := ret) ho cw.link cw.same cw.decl cw.notMH cw.sel cw.inst cw.code hK (by rw [hT]; exact hcB) hoB hclB hg (hsize.trans hml.symm) (argsL := As) (rest := rest) (fun sig h => hn.trans (cw.len sig h)) hstack hW (by rw [hb]; exact hdg)
    (fun vm₁ hW₁ => ⟨hf.1, hf.2, hPc (T.setVm vm₁) hT hW₁⟩) with ⟨v, vm₁, ⟨U', l2, c2, s2⟩, hW₁, X', ⟨g', mk, t, L, e1, e2, hq, h1, hL, h2, h3⟩, st⟩ | ⟨q, vm₁, ⟨U', l2, c2, s2⟩, hW₁, X', ⟨g', mk, t, L, E, ce, e1, e2, hq, hce, hcv, hcl, h1, hL, h2, h3⟩, st⟩
  · dsimp only [Pt.U, Pt.locs, Pt.cells, Pt.slots] at X' e1 e2 h1 h2 h3 st
    subst h1; subst h2; subst h3
    exact Or.inl ⟨v, (T.setVm vm₁).calling g' mk (Value.ref b :: As).toArray, t, U', L, hT, X', hL, e1, e2, hq, st⟩
  · dsimp only [Pt.U, Pt.locs, Pt.cells, Pt.slots] at X' e1 e2 h1 h2 h3 st hcl
    subst h1; subst h2; subst h3
    exact Or.inr ⟨q, (T.setVm vm₁).calling g' mk (Value.ref b :: As).toArray, t, U', L, E, ce, hT, X', hL, e1, e2, hq, hce, hcv, vx_cls hW₁ hcl, st⟩
end
/-! ===== END ===== -/
/-! ===== BEGIN super.m(..) that may throw (follows va_callSU, va_runSU) ===== -/
section
variable {p : Program} {l : Launch} {e : Env} {R : Room} {s : State} {m : MethodId} {args : Array Value} {below : List Frame} {meth : Method} {c : Code} {H : Heap} {locs : List Loc} {cells slots : Nat}
theorem vx_callSU {T : State} {locs : List Loc} {cells slots : Nat} (X : Stand p l e R s m args below meth c T locs cells slots) (hexec : p.tables.exec = Jvm.exec) {own : String} {index : Nat} {y : MethodName} {bytes : ByteArray} {maxL : Nat} {ret : Option FieldType}
    (hown : s.vm.findClass own = some m.cls) (hlink : (Cond.methodLink own index y).before args s = true) (hsame : (Cond.sameMethod y.cls y.cls y.name y.desc).before args s = true) (hsup : (Cond.superclass own y.cls).before args s = true)
    (hinst : (Cond.instanceMethod y).before args s = true) (hcode : (Cond.code y bytes maxL ret).before args s = true) (hno : y.name ≠ "<init>")
    {W : Nat} {Pre : Pt → Array Value → Prop} {Post : Pt → Array Value → Option Value → Pt → Prop} {PostX : Pt → Array Value → Addr → Pt → Prop} (hK : vx_Back l R p e below s args y 3 W Pre Post PostX)
    {b : Addr} {cellB : Cell} {kB : Class} (hcell : T.heap[b]? = some cellB) (hobj : cellB.vm.isStatics = false) (hkB : s.vm.classes[cellB.cls]? = some kB)
    {g : JFrame} (hg : g.method = m) (hsize : g.locals.size = c.maxLocals) {argsL rest : List Value} (hlen : ∀ sig, parseMethodDescriptor y.desc = some sig → argsL.length = sig.parameters.length)
    (hstack : g.stack = argsL.reverse ++ .ref b :: rest) (hW : 2 * g.monitorRoom + (rest.map fun v => v.category).sum ≤ W) (hdg : decode c.code g.pc = .ok (.invokespecial index, 3))
    (hpre : ∀ vm₁, s.WarmedH vm₁ → Pre ⟨T.setVm vm₁, locs, cells, slots⟩ (Value.ref b :: argsL).toArray) :
    (∃ (v : Option Value) (vm₁ : Vm) (B : Pt), s.WarmedH vm₁ ∧ Stand p l e R s m args below meth c B.U B.locs B.cells B.slots ∧ Post ⟨T.setVm vm₁, locs, cells, slots⟩ (Value.ref b :: argsL).toArray v B ∧
      ∀ target, Steps p.tables e below (B.U.setTop { g with pc := g.pc + 3, stack := v.toList ++ rest }) target → Steps p.tables e below (T.setTop g) target) ∨
    (∃ (q : Addr) (vm₁ : Vm) (B : Pt), s.WarmedH vm₁ ∧ Stand p l e R s m args below meth c B.U B.locs B.cells B.slots ∧ PostX ⟨T.setVm vm₁, locs, cells, slots⟩ (Value.ref b :: argsL).toArray q B ∧
      Steps p.tables e below (T.setTop g) ((B.U.setTop { g with stack := rest }).pushFrame (.throwing q))) := by
  obtain ⟨mk, methM, hnamed, hmethM, hstM, habM⟩ := Cond.instanceMethod_spec hinst
  obtain ⟨methM', cM, hmethM', -, -, -, -, -, -, hsigM⟩ := Cond.code_spec hnamed hcode
  cases hmethM.symm.trans hmethM'
  obtain ⟨ps, dk, kp, hps, hdk, hkp, hsuper, -, -, hnid⟩ := Cond.superclass_spec hown hsup
  have hn : s.methodNamed? ⟨y.cls, y.name, y.desc⟩ = some mk := hnamed
  have hpm : ps = mk.cls := Option.some.inj (hps.symm.trans (findClass_of_methodNamed hnamed))
  have hsub : s.vm.isSubclass ps mk.cls = true := by rw [hpm]; simp [Vm.isSubclass, Vm.isSubclassAux]
  obtain ⟨vm₁, X₁, hstep₁⟩ := X.invokespecialUp hexec hown hlink hsame hn hmethM hstM habM hno hdk hnid hps hsuper hsub (a := b) (cell := cellB) hcell
    (fun z h => by rw [h] at hobj; cases hobj) hkB (g := g) hg (argsL := argsL) (rest := rest) (hlen _ hsigM) hstack hdg
  rcases hK m meth c ⟨T.setVm vm₁, locs, cells, slots⟩ { g with stack := rest } (.invokespecial index) mk (Value.ref b :: argsL).toArray X₁ hg hsize hdg hW (X₁.named hnamed) (hpre vm₁ X₁.warmed) with ⟨v, B, X', hpost, hsteps⟩ | ⟨q, B, X', hpost, hsteps⟩
  · exact Or.inl ⟨v, vm₁, B, X₁.warmed, X', hpost, fun target h => hstep₁ _ (by rw [doInvoke_state]; exact hsteps.trans h)⟩
  · exact Or.inr ⟨q, vm₁, B, X₁.warmed, X', hpost, hstep₁ _ (by rw [doInvoke_state]; exact hsteps)⟩
theorem vx_runSU {y : MethodName} {bytes cc : ByteArray} {maxL nL mc ms n index : Nat} {ret : Option FieldType} {ws : List Cond} {rm : Room} {Pc : Array Value → State → Prop} {Qc : Array Value → State → Outcome → State → Prop} {XC : String → State → State → Prop} {free : Addr → Prop} {Ts : List Cond} {own C : String} {cC : ClassId} {b : Addr} {As rest : List Value} {g : JFrame}
    (hat : ClassAt s C cC) (S : CallFix p m c cc nL s args Ts own) (hM : vx_Met l y ws rm Pc Qc XC mc ms free) (cw : va_CS R s args own index y bytes maxL ret ws rm mc ms n) (hp : PreV s H C b Pc As)
    (hg : g.method = m) (hn : As.length = n) (hsize : g.locals.size = nL) (hstack : g.stack = As.reverse ++ .ref b :: rest) (hW : 2 * g.monitorRoom + (rest.map fun v => v.category).sum ≤ 8) (hdg : decode cc g.pc = .ok (.invokespecial index, 3)) (hf : cells + mc ≤ R.cells ∧ slots + ms ≤ R.slots) :
    vx_Run p l e R s m args below meth c H locs cells slots mc ms g rest (Qc (Value.ref b :: As).toArray) XC free := by
  obtain ⟨⟨hrc, hrs, hfr, hlo, hws, hcw⟩, hl1, hl2, hl3, hl4, hini, hcode, hno, hlen⟩ := cw
  have hK : vx_Back l R p e below s args y 3 8 (PreOf R mc ms Pc) (PostOf Qc mc ms free) (vx_Post XC mc ms free) := vx_back (bytes := bytes) (maxL := maxL) (ret := ret) hM hp.1 hrc hrs hfr hlo hws hcw (fun a' U hW => word_at hW (Or.inl (by first | rfl | simp [Cond.onTables, Cond.keeps, Cond.steady])) hini)
  obtain ⟨hx, hb, hml, ho, -⟩ := S
  obtain ⟨-, ⟨cellB, hcB, hoB, hclB⟩, hPc⟩ := hp
  obtain ⟨hfc, kB, hkB, -⟩ := hat
  cases hfc.symm.trans hclB
  intro T hT X
  rcases vx_callSU X hx (bytes := bytes) (maxL := maxL) (ret := ret) ho hl1 hl2 hl3 hl4 hcode hno hK (by rw [hT]; exact hcB) hoB hkB hg (hsize.trans hml.symm) (argsL := As) (rest := rest) (fun sig h => hn.trans (hlen sig h)) hstack hW (by rw [hb]; exact hdg)
    (fun vm₁ hW₁ => ⟨hf.1, hf.2, hPc (T.setVm vm₁) hT hW₁⟩) with ⟨v, vm₁, ⟨U', l2, c2, s2⟩, hW₁, X', ⟨g', mk, t, L, e1, e2, hq, h1, hL, h2, h3⟩, st⟩ | ⟨q, vm₁, ⟨U', l2, c2, s2⟩, hW₁, X', ⟨g', mk, t, L, E, ce, e1, e2, hq, hce, hcv, hcl, h1, hL, h2, h3⟩, st⟩
  · dsimp only [Pt.U, Pt.locs, Pt.cells, Pt.slots] at X' e1 e2 h1 h2 h3 st
    subst h1; subst h2; subst h3
    exact Or.inl ⟨v, (T.setVm vm₁).calling g' mk (Value.ref b :: As).toArray, t, U', L, hT, X', hL, e1, e2, hq, st⟩
  · dsimp only [Pt.U, Pt.locs, Pt.cells, Pt.slots] at X' e1 e2 h1 h2 h3 st hcl
    subst h1; subst h2; subst h3
    exact Or.inr ⟨q, (T.setVm vm₁).calling g' mk (Value.ref b :: As).toArray, t, U', L, E, ce, hT, X', hL, e1, e2, hq, hce, hcv, vx_cls hW₁ hcl, st⟩
end
/-! ===== END ===== -/
/-! ===== BEGIN a private method of a nest mate that may throw (follows va_callVN, va_callSN, va_runVN, va_runSN) ===== -/
section
variable {p : Program} {l : Launch} {e : Env} {R : Room} {s : State} {m : MethodId} {args : Array Value} {below : List Frame} {meth : Method} {c : Code} {H : Heap} {locs : List Loc} {cells slots : Nat}
variable {T : State}
theorem vx_callVN (X : Stand p l e R s m args below meth c T locs cells slots) (hexec : p.tables.exec = Jvm.exec) {own C : String} {index : Nat} {host : String} {y : MethodName} {bytes : ByteArray} {maxL : Nat} {ret : Option FieldType}
    (hown : s.vm.findClass own = some m.cls) (hlink : (Cond.methodLinkNest own index y host).before args s = true) (hinst : (Cond.instanceMethod y).before args s = true) (hsel : (Cond.selects C y y).before args s = true)
    (hcode : (Cond.code y bytes maxL ret).before args s = true) (hy : y.cls ≠ "java/lang/invoke/MethodHandle" ∧ y.cls ≠ "java/lang/invoke/VarHandle")
    {W : Nat} {Pre : Pt → Array Value → Prop} {Post : Pt → Array Value → Option Value → Pt → Prop} {PostX : Pt → Array Value → Addr → Pt → Prop} (hK : vx_Back l R p e below s args y 3 W Pre Post PostX)
    {b : Addr} {cellB : Cell} (hcell : T.heap[b]? = some cellB) (hobj : cellB.vm.isStatics = false) (hcls : s.vm.findClass C = some cellB.cls)
    {g : JFrame} (hg : g.method = m) (hsize : g.locals.size = c.maxLocals) {argsL rest : List Value} (hlen : ∀ sig, parseMethodDescriptor y.desc = some sig → argsL.length = sig.parameters.length)
    (hstack : g.stack = argsL.reverse ++ .ref b :: rest) (hW : 2 * g.monitorRoom + (rest.map fun v => v.category).sum ≤ W) (hdg : decode c.code g.pc = .ok (.invokevirtual index, 3))
    (hpre : ∀ vm₁, s.WarmedH vm₁ → Pre ⟨T.setVm vm₁, locs, cells, slots⟩ (Value.ref b :: argsL).toArray) :
    (∃ (v : Option Value) (vm₁ : Vm) (B : Pt), s.WarmedH vm₁ ∧ Stand p l e R s m args below meth c B.U B.locs B.cells B.slots ∧ Post ⟨T.setVm vm₁, locs, cells, slots⟩ (Value.ref b :: argsL).toArray v B ∧
      ∀ target, Steps p.tables e below (B.U.setTop { g with pc := g.pc + 3, stack := v.toList ++ rest }) target → Steps p.tables e below (T.setTop g) target) ∨
    (∃ (q : Addr) (vm₁ : Vm) (B : Pt), s.WarmedH vm₁ ∧ Stand p l e R s m args below meth c B.U B.locs B.cells B.slots ∧ PostX ⟨T.setVm vm₁, locs, cells, slots⟩ (Value.ref b :: argsL).toArray q B ∧
      Steps p.tables e below (T.setTop g) ((B.U.setTop { g with stack := rest }).pushFrame (.throwing q))) := by
  obtain ⟨mk, methM, hnamed, hmethM, hstM, habM⟩ := Cond.instanceMethod_spec hinst
  obtain ⟨methM', cM, hmethM', -, -, -, -, -, -, hsigM⟩ := Cond.code_spec hnamed hcode
  cases hmethM.symm.trans hmethM'
  obtain ⟨c2, r2, m2, q1, q2, q3, q4, kP, hkP, hkPi⟩ := Cond.selects_spec hsel
  cases hcls.symm.trans q1
  cases (State.methodFound?_of_named hnamed hy).symm.trans q2
  cases hnamed.symm.trans q3
  have hselP : selectMethod e.platform s.vm cellB.cls mk = .method mk := by rw [Launch.admits_selectMethod X.admits]; exact q4
  obtain ⟨vm₁, X₁, hstep₁⟩ := X.invokevirtualNest hexec hown hlink hnamed hmethM hstM hkP hkPi hy (a := b) (cell := cellB) hcell
    (fun z h => by rw [h] at hobj; cases hobj) hselP hmethM habM hkP hkPi (g := g) hg (argsL := argsL) (rest := rest) (hlen _ hsigM) hstack hdg
  rcases hK m meth c ⟨T.setVm vm₁, locs, cells, slots⟩ { g with stack := rest } (.invokevirtual index) mk (Value.ref b :: argsL).toArray X₁ hg hsize hdg hW (X₁.named hnamed) (hpre vm₁ X₁.warmed) with ⟨v, B, X', hpost, hsteps⟩ | ⟨q, B, X', hpost, hsteps⟩
  · exact Or.inl ⟨v, vm₁, B, X₁.warmed, X', hpost, fun target h => hstep₁ _ fun acts => by rw [doInvoke_state]; exact hsteps.trans h⟩
  · exact Or.inr ⟨q, vm₁, B, X₁.warmed, X', hpost, hstep₁ _ fun acts => by rw [doInvoke_state]; exact hsteps⟩
theorem vx_callSN (X : Stand p l e R s m args below meth c T locs cells slots) (hexec : p.tables.exec = Jvm.exec) {own : String} {index : Nat} {host : String} {y : MethodName} {bytes : ByteArray} {maxL : Nat} {ret : Option FieldType}
    (hown : s.vm.findClass own = some m.cls) (hlink : (Cond.methodLinkNest own index y host).before args s = true) (hstat : (Cond.static y).before args s = true) (hinit : (Cond.initialized y.cls).before args s = true)
    (hcode : (Cond.code y bytes maxL ret).before args s = true) (hy : y.cls ≠ "java/lang/invoke/MethodHandle" ∧ y.cls ≠ "java/lang/invoke/VarHandle")
    {W : Nat} {Pre : Pt → Array Value → Prop} {Post : Pt → Array Value → Option Value → Pt → Prop} {PostX : Pt → Array Value → Addr → Pt → Prop} (hK : vx_Back l R p e below s args y 3 W Pre Post PostX)
    {g : JFrame} (hg : g.method = m) (hsize : g.locals.size = c.maxLocals) {argsL rest : List Value} (hlen : ∀ sig, parseMethodDescriptor y.desc = some sig → argsL.length = sig.parameters.length)
    (hstack : g.stack = argsL.reverse ++ rest) (hW : 2 * g.monitorRoom + (rest.map fun v => v.category).sum ≤ W) (hdg : decode c.code g.pc = .ok (.invokestatic index, 3))
    (hpre : ∀ vm₁, s.WarmedH vm₁ → Pre ⟨T.setVm vm₁, locs, cells, slots⟩ argsL.toArray) :
    (∃ (v : Option Value) (vm₁ : Vm) (B : Pt), s.WarmedH vm₁ ∧ Stand p l e R s m args below meth c B.U B.locs B.cells B.slots ∧ Post ⟨T.setVm vm₁, locs, cells, slots⟩ argsL.toArray v B ∧
      ∀ target, Steps p.tables e below (B.U.setTop { g with pc := g.pc + 3, stack := v.toList ++ rest }) target → Steps p.tables e below (T.setTop g) target) ∨
    (∃ (q : Addr) (vm₁ : Vm) (B : Pt), s.WarmedH vm₁ ∧ Stand p l e R s m args below meth c B.U B.locs B.cells B.slots ∧ PostX ⟨T.setVm vm₁, locs, cells, slots⟩ argsL.toArray q B ∧
      Steps p.tables e below (T.setTop g) ((B.U.setTop { g with stack := rest }).pushFrame (.throwing q))) := by
  obtain ⟨mk, hnamed⟩ := Cond.code_named hcode
  obtain ⟨methM, cM, hmethM, -, -, -, -, -, -, hsigM⟩ := Cond.code_spec hnamed hcode
  have hstatic : methM.isStatic = true := Cond.static_spec hnamed hmethM hstat
  obtain ⟨kP, hkP, -⟩ := className_of_methodNamed hnamed
  have hinitP : kP.init = .initialized := Cond.initialized_spec (findClass_of_methodNamed hnamed) hkP hinit
  obtain ⟨vm₁, X₁, hstep₁⟩ := X.invokestaticNest hexec hown hlink hnamed hmethM hstatic hkP hinitP hy (g := g) hg (argsL := argsL) (rest := rest) (hlen _ hsigM) hstack hdg
  rcases hK m meth c ⟨T.setVm vm₁, locs, cells, slots⟩ { g with stack := rest } (.invokestatic index) mk argsL.toArray X₁ hg hsize hdg hW (X₁.named hnamed) (hpre vm₁ X₁.warmed) with ⟨v, B, X', hpost, hsteps⟩ | ⟨q, B, X', hpost, hsteps⟩
  · exact Or.inl ⟨v, vm₁, B, X₁.warmed, X', hpost, fun target h => hstep₁ _ fun acts => by rw [doInvoke_state]; exact hsteps.trans h⟩
  · exact Or.inr ⟨q, vm₁, B, X₁.warmed, X', hpost, hstep₁ _ fun acts => by rw [doInvoke_state]; exact hsteps⟩
theorem vx_runVN {y : MethodName} {bytes cc : ByteArray} {maxL nL mc ms n index : Nat} {ret : Option FieldType} {ws : List Cond} {rm : Room} {Pc : Array Value → State → Prop} {Qc : Array Value → State → Outcome → State → Prop} {XC : String → State → State → Prop} {free : Addr → Prop} {Ts : List Cond} {own C host : String} {b : Addr} {As rest : List Value} {g : JFrame}
    (S : CallFix p m c cc nL s args Ts own) (hM : vx_Met l y ws rm Pc Qc XC mc ms free) (cw : va_CN R s args own index y host bytes maxL ret ws rm mc ms n ∧ (Cond.instanceMethod y).before args s = true ∧ (Cond.selects C y y).before args s = true) (hp : PreV s H C b Pc As)
    (hg : g.method = m) (hn : As.length = n) (hsize : g.locals.size = nL) (hstack : g.stack = As.reverse ++ .ref b :: rest) (hW : 2 * g.monitorRoom + (rest.map fun v => v.category).sum ≤ 8) (hdg : decode cc g.pc = .ok (.invokevirtual index, 3)) (hf : cells + mc ≤ R.cells ∧ slots + ms ≤ R.slots) :
    vx_Run p l e R s m args below meth c H locs cells slots mc ms g rest (Qc (Value.ref b :: As).toArray) XC free := by
  obtain ⟨⟨⟨hrc, hrs, hfr, hlo, hws, hcw⟩, hcode, hini, hy, hlen, hl⟩, hx1, hx2⟩ := cw
  have hK : vx_Back l R p e below s args y 3 8 (PreOf R mc ms Pc) (PostOf Qc mc ms free) (vx_Post XC mc ms free) := vx_back (bytes := bytes) (maxL := maxL) (ret := ret) hM hp.1 hrc hrs hfr hlo hws hcw (fun a' U hW => word_at hW (Or.inl (by first | rfl | simp [Cond.onTables, Cond.keeps, Cond.steady])) hini)
  obtain ⟨hx, hb, hml, ho, -⟩ := S
  obtain ⟨-, ⟨cellB, hcB, hoB, hclB⟩, hPc⟩ := hp
  intro T hT X
  rcases vx_callVN X hx (C := C) (bytes := bytes) (maxL := maxL) (ret := ret) ho hl hx1 hx2 hcode hy hK (by rw [hT]; exact hcB) hoB hclB hg (hsize.trans hml.symm) (argsL := As) (rest := rest) (fun sig h => hn.trans (hlen sig h)) hstack hW (by rw [hb]; exact hdg)
    (fun vm₁ hW₁ => ⟨hf.1, hf.2, hPc (T.setVm vm₁) hT hW₁⟩) with ⟨v, vm₁, ⟨U', l2, c2, s2⟩, hW₁, X', ⟨g', mk, t, L, e1, e2, hq, h1, hL, h2, h3⟩, st⟩ | ⟨q, vm₁, ⟨U', l2, c2, s2⟩, hW₁, X', ⟨g', mk, t, L, E, ce, e1, e2, hq, hce, hcv, hcl, h1, hL, h2, h3⟩, st⟩
  · dsimp only [Pt.U, Pt.locs, Pt.cells, Pt.slots] at X' e1 e2 h1 h2 h3 st
    subst h1; subst h2; subst h3
    exact Or.inl ⟨v, (T.setVm vm₁).calling g' mk (Value.ref b :: As).toArray, t, U', L, hT, X', hL, e1, e2, hq, st⟩
  · dsimp only [Pt.U, Pt.locs, Pt.cells, Pt.slots] at X' e1 e2 h1 h2 h3 st hcl
    subst h1; subst h2; subst h3
    exact Or.inr ⟨q, (T.setVm vm₁).calling g' mk (Value.ref b :: As).toArray, t, U', L, E, ce, hT, X', hL, e1, e2, hq, hce, hcv, vx_cls hW₁ hcl, st⟩
theorem vx_runSN {y : MethodName} {bytes cc : ByteArray} {maxL nL mc ms n index : Nat} {ret : Option FieldType} {ws : List Cond} {rm : Room} {Pc : Array Value → State → Prop} {Qc : Array Value → State → Outcome → State → Prop} {XC : String → State → State → Prop} {free : Addr → Prop} {Ts : List Cond} {own host : String} {As rest : List Value} {g : JFrame}
    (S : CallFix p m c cc nL s args Ts own) (hM : vx_Met l y ws rm Pc Qc XC mc ms free) (cw : va_CN R s args own index y host bytes maxL ret ws rm mc ms n ∧ (Cond.static y).before args s = true ∧ True) (hp : PreS s H Pc As)
    (hg : g.method = m) (hn : As.length = n) (hsize : g.locals.size = nL) (hstack : g.stack = As.reverse ++ rest) (hW : 2 * g.monitorRoom + (rest.map fun v => v.category).sum ≤ 8) (hdg : decode cc g.pc = .ok (.invokestatic index, 3)) (hf : cells + mc ≤ R.cells ∧ slots + ms ≤ R.slots) :
    vx_Run p l e R s m args below meth c H locs cells slots mc ms g rest (Qc As.toArray) XC free := by
  obtain ⟨⟨⟨hrc, hrs, hfr, hlo, hws, hcw⟩, hcode, hini, hy, hlen, hl⟩, hx1, hx2⟩ := cw
  have hK : vx_Back l R p e below s args y 3 8 (PreOf R mc ms Pc) (PostOf Qc mc ms free) (vx_Post XC mc ms free) := vx_back (bytes := bytes) (maxL := maxL) (ret := ret) hM hp.1 hrc hrs hfr hlo hws hcw (fun a' U hW => word_at hW (Or.inl (by first | rfl | simp [Cond.onTables, Cond.keeps, Cond.steady])) hini)
  obtain ⟨hx, hb, hml, ho, -⟩ := S
  have hPc := hp.2
  intro T hT X
  rcases vx_callSN X hx (bytes := bytes) (maxL := maxL) (ret := ret) ho hl hx1 hini hcode hy hK hg (hsize.trans hml.symm) (argsL := As) (rest := rest) (fun sig h => hn.trans (hlen sig h)) hstack hW (by rw [hb]; exact hdg)
    (fun vm₁ hW₁ => ⟨hf.1, hf.2, hPc (T.setVm vm₁) hT hW₁⟩) with ⟨v, vm₁, ⟨U', l2, c2, s2⟩, hW₁, X', ⟨g', mk, t, L, e1, e2, hq, h1, hL, h2, h3⟩, st⟩ | ⟨q, vm₁, ⟨U', l2, c2, s2⟩, hW₁, X', ⟨g', mk, t, L, E, ce, e1, e2, hq, hce, hcv, hcl, h1, hL, h2, h3⟩, st⟩
  · dsimp only [Pt.U, Pt.locs, Pt.cells, Pt.slots] at X' e1 e2 h1 h2 h3 st
    subst h1; subst h2; subst h3
    exact Or.inl ⟨v, (T.setVm vm₁).calling g' mk As.toArray, t, U', L, hT, X', hL, e1, e2, hq, st⟩
  · dsimp only [Pt.U, Pt.locs, Pt.cells, Pt.slots] at X' e1 e2 h1 h2 h3 st hcl
    subst h1; subst h2; subst h3
    exact Or.inr ⟨q, (T.setVm vm₁).calling g' mk As.toArray, t, U', L, E, ce, hT, X', hL, e1, e2, hq, hce, hcv, vx_cls hW₁ hcl, st⟩
end
/-! ===== END ===== -/
/-! ===== BEGIN calls by an interface of methods that may throw (vx_callIF, vx_runF follow va_callIF, va_runF of this kit) ===== -/
section
variable {p : Program} {l : Launch} {e : Env} {R : Room} {s : State} {m : MethodId} {args : Array Value} {below : List Frame} {meth : Method} {c : Code} {H : Heap} {locs : List Loc} {cells slots : Nat} {Q : State → Prop}
variable {mc ms : Nat} {free : Addr → Prop} {A0 A1 : Nat → Prop} {H0 : Heap} {a : Array Value} {pc : Nat} {ls : Array Slot} {st0 rest : List Value}
def vx_Run5 (p : Program) (l : Launch) (e : Env) (R : Room) (s : State) (m : MethodId) (args : Array Value) (below : List Frame) (meth : Method) (c : Code) (H : Heap) (locs : List Loc) (cells slots mc ms : Nat) (g : JFrame) (rest : List Value) (Qa : State → Outcome → State → Prop) (XC : String → State → State → Prop) (free : Addr → Prop) : Prop :=
  ∀ T : State, T.heap = H → Stand p l e R s m args below meth c T locs cells slots →
    (∃ (v : Option Value) (st₀ t T' : State) (L : List Loc), st₀.heap = H ∧ Stand p l e R s m args below meth c T' (locs ++ L) (cells + mc) (slots + ms) ∧ (∀ q ∈ L, free q.base) ∧ T'.heap = t.heap ∧ T'.vm = t.vm ∧ Qa st₀ (.returned v) t ∧
      Goes p e below T g T' { g with pc := g.pc + 5, stack := v.toList ++ rest }) ∨
    (∃ (q : Addr) (st₀ t T' : State) (L : List Loc) (E : String) (ce : Cell), st₀.heap = H ∧ Stand p l e R s m args below meth c T' (locs ++ L) (cells + mc) (slots + ms) ∧ (∀ z ∈ L, free z.base) ∧ T'.heap = t.heap ∧ T'.vm = t.vm ∧ XC E st₀ t ∧ t.heap[q]? = some ce ∧ ce.vm = .none ∧ s.vm.findClass E = some ce.cls ∧
      Steps p.tables e below (T.setTop g) ((T'.setTop { g with stack := rest }).pushFrame (.throwing q)))
theorem vx_callIF {T : State} (X : Stand p l e R s m args below meth c T locs cells slots) (hexec : p.tables.exec = Jvm.exec) {own C : String} {index count : Nat} {x y : MethodName} {bytes : ByteArray} {maxL : Nat} {ret : Option FieldType}
    (hown : s.vm.findClass own = some m.cls) (hlink : (Cond.methodLink own index x).before args s = true) (hdecl : (Cond.declares x).before args s = true) (hface : (Cond.interfaceMethod x.cls x.cls x.name x.desc).before args s = true)
    (hsel : (Cond.selects C x y).before args s = true) (hinst : (Cond.instanceMethod y).before args s = true) (hpub : (Cond.publicMethod y).before args s = true) (hunh : (Cond.unhidden C x.name x.desc).before args s = true)
    (hcast : (Cond.castable C x.cls).before args s = true) (hcode : (Cond.code y bytes maxL ret).before args s = true) (hx : x.cls ≠ "java/lang/invoke/MethodHandle" ∧ x.cls ≠ "java/lang/invoke/VarHandle")
    {W9 : Nat} {Pre : Pt → Array Value → Prop} {Post : Pt → Array Value → Option Value → Pt → Prop} {PostX : Pt → Array Value → Addr → Pt → Prop} (hK : vx_Back l R p e below s args y 5 W9 Pre Post PostX)
    {b : Addr} {cellB : Cell} {kB : Class} (hcell : T.heap[b]? = some cellB) (hobj : cellB.vm.isStatics = false) (hcls : s.vm.findClass C = some cellB.cls) (hkB : s.vm.classes[cellB.cls]? = some kB)
    {g : JFrame} (hg : g.method = m) (hsize : g.locals.size = c.maxLocals) {argsL rest : List Value} (hlen : ∀ sig, parseMethodDescriptor x.desc = some sig → argsL.length = sig.parameters.length)
    (hstack : g.stack = argsL.reverse ++ .ref b :: rest) (hW : 2 * g.monitorRoom + (rest.map fun v => v.category).sum ≤ W9) (hdg : decode c.code g.pc = .ok (.invokeinterface index count, 5))
    (hpre : ∀ vm₁, s.WarmedH vm₁ → Pre ⟨T.setVm vm₁, locs, cells, slots⟩ (Value.ref b :: argsL).toArray) :
    (∃ (v : Option Value) (vm₁ : Vm) (B : Pt), s.WarmedH vm₁ ∧ Stand p l e R s m args below meth c B.U B.locs B.cells B.slots ∧ Post ⟨T.setVm vm₁, locs, cells, slots⟩ (Value.ref b :: argsL).toArray v B ∧
      ∀ target, Steps p.tables e below (B.U.setTop { g with pc := g.pc + 5, stack := v.toList ++ rest }) target → Steps p.tables e below (T.setTop g) target) ∨
    (∃ (q : Addr) (vm₁ : Vm) (B : Pt), s.WarmedH vm₁ ∧ Stand p l e R s m args below meth c B.U B.locs B.cells B.slots ∧ PostX ⟨T.setVm vm₁, locs, cells, slots⟩ (Value.ref b :: argsL).toArray q B ∧
      Steps p.tables e below (T.setTop g) ((B.U.setTop { g with stack := rest }).pushFrame (.throwing q))) := by
  obtain ⟨r0, r, hn, hrm, hstR, hsigR⟩ := Cond.declares_spec hdecl
  obtain ⟨cL, kL, r1, hcL, hkL, hiL, hfoundL, hn1⟩ := Cond.interfaceMethod_spec hface
  cases hn.symm.trans hn1
  have hr0cls : r0.cls = cL := Option.some.inj ((findClass_of_methodNamed hn).symm.trans hcL)
  obtain ⟨hnameR, hdescR⟩ := name_of_methodNamed hn hrm
  obtain ⟨mk, methM, hnamed, hmethM, -, habM⟩ := Cond.instanceMethod_spec hinst
  obtain ⟨c2, r2, m2, q1, q2, q3, q4, -⟩ := Cond.selects_spec hsel
  cases hcls.symm.trans q1
  cases hfoundL.symm.trans q2
  cases hnamed.symm.trans q3
  have hselP : selectMethod e.platform s.vm cellB.cls r0 = .method mk := by rw [Launch.admits_selectMethod X.admits]; exact q4
  have hpubM : hasFlag methM.accessFlags Acc.public_ = true := Cond.publicMethod_spec hnamed hmethM hpub
  have hway : ((cellB.cls :: s.vm.superclasses cellB.cls).any fun k => (declaredIn s.vm r.name r.desc k).any fun (_, z) => z.isPrivate || z.isStatic) = false := by
    rw [hnameR, hdescR]; exact Cond.unhidden_spec hcls hunh
  obtain ⟨c3, t3, w1, w2, w3⟩ := Cond.castable_spec hcast
  cases hcls.symm.trans w1
  cases hcL.symm.trans w2
  obtain ⟨vm₁, X₁, hstep₁⟩ := X.invokeinterface hexec hown hlink hn hrm hstR (by rw [hr0cls]; exact hkL) hiL hx (a := b) (cell := cellB) (kcell := kB) hcell
    (fun z h => by rw [h] at hobj; cases hobj) hkB (by rw [hr0cls]; exact w3) hselP hmethM hway hpubM habM (g := g) hg (argsL := argsL) (rest := rest) (hlen _ hsigR) hstack hdg
  rcases hK m meth c ⟨T.setVm vm₁, locs, cells, slots⟩ { g with stack := rest } (.invokeinterface index count) mk (Value.ref b :: argsL).toArray X₁ hg hsize hdg hW (X₁.named hnamed) (hpre vm₁ X₁.warmed) with ⟨v, B, X', hpost, hsteps⟩ | ⟨q, B, X', hpost, hsteps⟩
  · exact Or.inl ⟨v, vm₁, B, X₁.warmed, X', hpost, fun target h => hstep₁ _ fun acts => by rw [doInvoke_state]; exact hsteps.trans h⟩
  · exact Or.inr ⟨q, vm₁, B, X₁.warmed, X', hpost, hstep₁ _ fun acts => by rw [doInvoke_state]; exact hsteps⟩
theorem vx_runF {x y : MethodName} {bytes cc : ByteArray} {maxL nL mc ms n index count : Nat} {ret : Option FieldType} {ws : List Cond} {rm : Room} {Pc : Array Value → State → Prop} {Qc : Array Value → State → Outcome → State → Prop} {XC : String → State → State → Prop} {free : Addr → Prop} {Ts : List Cond} {own C : String} {cC : ClassId} {b : Addr} {As rest : List Value} {g : JFrame}
    (hat : ClassAt s C cC) (S : CallFix p m c cc nL s args Ts own) (hM : vx_Met l y ws rm Pc Qc XC mc ms free) (cw : va_CI R s args own C index x y bytes maxL ret ws rm mc ms n) (hp : PreV s H C b Pc As)
    (hg : g.method = m) (hn : As.length = n) (hsize : g.locals.size = nL) (hstack : g.stack = As.reverse ++ .ref b :: rest) (hW : 2 * g.monitorRoom + (rest.map fun v => v.category).sum ≤ 8) (hdg : decode cc g.pc = .ok (.invokeinterface index count, 5)) (hf : cells + mc ≤ R.cells ∧ slots + ms ≤ R.slots) :
    vx_Run5 p l e R s m args below meth c H locs cells slots mc ms g rest (Qc (Value.ref b :: As).toArray) XC free := by
  obtain ⟨hrc, hrs, hfr, hlo, hws, hcw⟩ := cw.back
  have hini := cw.init
  have hK : vx_Back l R p e below s args y 5 8 (PreOf R mc ms Pc) (PostOf Qc mc ms free) (vx_Post XC mc ms free) := vx_back (bytes := bytes) (maxL := maxL) (ret := ret) hM hp.1 hrc hrs hfr hlo hws hcw (fun a' U hW => word_at hW (Or.inl (by first | rfl | simp [Cond.onTables, Cond.keeps, Cond.steady])) hini)
  obtain ⟨hx, hb, hml, ho, -⟩ := S
  obtain ⟨-, ⟨cellB, hcB, hoB, hclB⟩, hPc⟩ := hp
  obtain ⟨hfc, kB, hkB, -⟩ := hat
  cases hfc.symm.trans hclB
  intro T hT X
  rcases vx_callIF X hx (C := C) (bytes := bytes) (maxL := maxL) (ret := ret) ho cw.link cw.decl cw.face cw.sel cw.inst cw.pub cw.unh cw.cast cw.code cw.notMH hK (by rw [hT]; exact hcB) hoB hclB hkB hg (hsize.trans hml.symm) (argsL := As) (rest := rest) (fun sig h => hn.trans (cw.len sig h)) hstack hW (by rw [hb]; exact hdg)
    (fun vm₁ hW₁ => ⟨hf.1, hf.2, hPc (T.setVm vm₁) hT hW₁⟩) with ⟨v, vm₁, ⟨U', l2, c2, s2⟩, hW₁, X', ⟨g', mk, t, L, e1, e2, hq, h1, hL, h2, h3⟩, st⟩ | ⟨q, vm₁, ⟨U', l2, c2, s2⟩, hW₁, X', ⟨g', mk, t, L, E, ce, e1, e2, hq, hce, hcv, hcl, h1, hL, h2, h3⟩, st⟩
  · dsimp only [Pt.U, Pt.locs, Pt.cells, Pt.slots] at X' e1 e2 h1 h2 h3 st
    subst h1; subst h2; subst h3
    exact Or.inl ⟨v, (T.setVm vm₁).calling g' mk (Value.ref b :: As).toArray, t, U', L, hT, X', hL, e1, e2, hq, st⟩
  · dsimp only [Pt.U, Pt.locs, Pt.cells, Pt.slots] at X' e1 e2 h1 h2 h3 st hcl
    subst h1; subst h2; subst h3
    exact Or.inr ⟨q, (T.setVm vm₁).calling g' mk (Value.ref b :: As).toArray, t, U', L, E, ce, hT, X', hL, e1, e2, hq, hce, hcv, vx_cls hW₁ hcl, st⟩
theorem vx_callFv {S SX : Type} {post : S → Prop} {px : SX → Prop} {B : S → State → Prop} {BX : String → SX → State → Prop} {AX : Nat → Prop} (hr : vx_Run5 p l e R s m args below meth c H locs cells slots mc ms (F0 m pc ls st0) rest (va_Qv post B A1 a) (vx_X px BX AX) free) (hS : va_S A0 H0 H locs) (hA : ∀ q, q < H.size → A1 q → A0 q) (hf : ∀ q, free q → A0 q) (hAX : ∀ q, q < H.size → AX q → A0 q)
    (kx : ∀ (E : String) (ce : Cell) (q9 : Addr) (u : SX) (t : State) (H1 : Heap) (locs1 : List Loc), t.heap = H1 → s.vm.Alike t.vm → px u → BX E u t → H.size ≤ H1.size → (∀ q : Nat, q < H.size → ¬ AX q → H1[q]? = H[q]?) → va_S A0 H0 H1 locs1 → H1[q9]? = some ce → ce.vm = .none → s.vm.findClass E = some ce.cls → vx_W p l e R s m args below meth c H1 locs1 (cells + mc) (slots + ms) Q (F0 m pc ls rest) q9)
    (kk : ∀ (u : S) (t : State) (H1 : Heap) (locs1 : List Loc), t.heap = H1 → s.vm.Alike t.vm → post u → B u t → H.size ≤ H1.size → (∀ q : Nat, q < H.size → ¬ A1 q → H1[q]? = H[q]?) → va_S A0 H0 H1 locs1 → W p l e R s m args below meth c H1 locs1 (cells + mc) (slots + ms) Q (F0 m (pc + 5) ls (rest))) : W p l e R s m args below meth c H locs cells slots Q (F0 m pc ls st0) := by
  intro T hT X
  rcases hr T hT X with ⟨v, st₀, t, T', L, h0, X', hL, e1, e2, ⟨⟨u, hv, hp, hb⟩, hF⟩, st⟩ | ⟨q, st₀, t, T', L, E, ce, h0, X', hL, e1, e2, ⟨u, hp, hb, hF⟩, hce, hcv, hcl, st⟩
  · cases hv
    obtain ⟨k1, k2, k3⟩ := vx_keep h0 e1 hS hA hf hL hF
    obtain ⟨t2, a1, b1⟩ := kk u t T'.heap (locs ++ L) e1.symm (by rw [← e2]; exact X'.warmed.alike) hp hb k1 k2 k3 T' rfl X'
    exact ⟨t2, st t2 a1, b1⟩
  · obtain ⟨k1, k2, k3⟩ := vx_keep h0 e1 hS hAX hf hL hF
    obtain ⟨t2, a1, b1⟩ := kx E ce q u t T'.heap (locs ++ L) e1.symm (by rw [← e2]; exact X'.warmed.alike) hp hb k1 k2 k3 (by rw [e1]; exact hce) hcv hcl T' rfl X'
    exact ⟨t2, st.trans a1, b1⟩
theorem vx_callFi {S SX : Type} {post : Int32 → S → Prop} {px : SX → Prop} {B : S → State → Prop} {BX : String → SX → State → Prop} {AX : Nat → Prop} (hr : vx_Run5 p l e R s m args below meth c H locs cells slots mc ms (F0 m pc ls st0) rest (va_Qi post B A1 a) (vx_X px BX AX) free) (hS : va_S A0 H0 H locs) (hA : ∀ q, q < H.size → A1 q → A0 q) (hf : ∀ q, free q → A0 q) (hAX : ∀ q, q < H.size → AX q → A0 q)
    (kx : ∀ (E : String) (ce : Cell) (q9 : Addr) (u : SX) (t : State) (H1 : Heap) (locs1 : List Loc), t.heap = H1 → s.vm.Alike t.vm → px u → BX E u t → H.size ≤ H1.size → (∀ q : Nat, q < H.size → ¬ AX q → H1[q]? = H[q]?) → va_S A0 H0 H1 locs1 → H1[q9]? = some ce → ce.vm = .none → s.vm.findClass E = some ce.cls → vx_W p l e R s m args below meth c H1 locs1 (cells + mc) (slots + ms) Q (F0 m pc ls rest) q9)
    (kk : ∀ (r : Int32) (u : S) (t : State) (H1 : Heap) (locs1 : List Loc), t.heap = H1 → s.vm.Alike t.vm → post r u → B u t → H.size ≤ H1.size → (∀ q : Nat, q < H.size → ¬ A1 q → H1[q]? = H[q]?) → va_S A0 H0 H1 locs1 → W p l e R s m args below meth c H1 locs1 (cells + mc) (slots + ms) Q (F0 m (pc + 5) ls (.int r :: rest))) : W p l e R s m args below meth c H locs cells slots Q (F0 m pc ls st0) := by
  intro T hT X
  rcases hr T hT X with ⟨v, st₀, t, T', L, h0, X', hL, e1, e2, ⟨⟨r, u, hv, hp, hb⟩, hF⟩, st⟩ | ⟨q, st₀, t, T', L, E, ce, h0, X', hL, e1, e2, ⟨u, hp, hb, hF⟩, hce, hcv, hcl, st⟩
  · cases hv
    obtain ⟨k1, k2, k3⟩ := vx_keep h0 e1 hS hA hf hL hF
    obtain ⟨t2, a1, b1⟩ := kk r u t T'.heap (locs ++ L) e1.symm (by rw [← e2]; exact X'.warmed.alike) hp hb k1 k2 k3 T' rfl X'
    exact ⟨t2, st t2 a1, b1⟩
  · obtain ⟨k1, k2, k3⟩ := vx_keep h0 e1 hS hAX hf hL hF
    obtain ⟨t2, a1, b1⟩ := kx E ce q u t T'.heap (locs ++ L) e1.symm (by rw [← e2]; exact X'.warmed.alike) hp hb k1 k2 k3 (by rw [e1]; exact hce) hcv hcl T' rfl X'
    exact ⟨t2, st.trans a1, b1⟩
theorem vx_callFl {S SX : Type} {post : Int64 → S → Prop} {px : SX → Prop} {B : S → State → Prop} {BX : String → SX → State → Prop} {AX : Nat → Prop} (hr : vx_Run5 p l e R s m args below meth c H locs cells slots mc ms (F0 m pc ls st0) rest (va_Ql post B A1 a) (vx_X px BX AX) free) (hS : va_S A0 H0 H locs) (hA : ∀ q, q < H.size → A1 q → A0 q) (hf : ∀ q, free q → A0 q) (hAX : ∀ q, q < H.size → AX q → A0 q)
    (kx : ∀ (E : String) (ce : Cell) (q9 : Addr) (u : SX) (t : State) (H1 : Heap) (locs1 : List Loc), t.heap = H1 → s.vm.Alike t.vm → px u → BX E u t → H.size ≤ H1.size → (∀ q : Nat, q < H.size → ¬ AX q → H1[q]? = H[q]?) → va_S A0 H0 H1 locs1 → H1[q9]? = some ce → ce.vm = .none → s.vm.findClass E = some ce.cls → vx_W p l e R s m args below meth c H1 locs1 (cells + mc) (slots + ms) Q (F0 m pc ls rest) q9)
    (kk : ∀ (r : Int64) (u : S) (t : State) (H1 : Heap) (locs1 : List Loc), t.heap = H1 → s.vm.Alike t.vm → post r u → B u t → H.size ≤ H1.size → (∀ q : Nat, q < H.size → ¬ A1 q → H1[q]? = H[q]?) → va_S A0 H0 H1 locs1 → W p l e R s m args below meth c H1 locs1 (cells + mc) (slots + ms) Q (F0 m (pc + 5) ls (.long r :: rest))) : W p l e R s m args below meth c H locs cells slots Q (F0 m pc ls st0) := by
  intro T hT X
  rcases hr T hT X with ⟨v, st₀, t, T', L, h0, X', hL, e1, e2, ⟨⟨r, u, hv, hp, hb⟩, hF⟩, st⟩ | ⟨q, st₀, t, T', L, E, ce, h0, X', hL, e1, e2, ⟨u, hp, hb, hF⟩, hce, hcv, hcl, st⟩
  · cases hv
    obtain ⟨k1, k2, k3⟩ := vx_keep h0 e1 hS hA hf hL hF
    obtain ⟨t2, a1, b1⟩ := kk r u t T'.heap (locs ++ L) e1.symm (by rw [← e2]; exact X'.warmed.alike) hp hb k1 k2 k3 T' rfl X'
    exact ⟨t2, st t2 a1, b1⟩
  · obtain ⟨k1, k2, k3⟩ := vx_keep h0 e1 hS hAX hf hL hF
    obtain ⟨t2, a1, b1⟩ := kx E ce q u t T'.heap (locs ++ L) e1.symm (by rw [← e2]; exact X'.warmed.alike) hp hb k1 k2 k3 (by rw [e1]; exact hce) hcv hcl T' rfl X'
    exact ⟨t2, st.trans a1, b1⟩
theorem vx_callFf {S SX : Type} {post : UInt32 → S → Prop} {px : SX → Prop} {B : S → State → Prop} {BX : String → SX → State → Prop} {AX : Nat → Prop} (hr : vx_Run5 p l e R s m args below meth c H locs cells slots mc ms (F0 m pc ls st0) rest (va_Qf post B A1 a) (vx_X px BX AX) free) (hS : va_S A0 H0 H locs) (hA : ∀ q, q < H.size → A1 q → A0 q) (hf : ∀ q, free q → A0 q) (hAX : ∀ q, q < H.size → AX q → A0 q)
    (kx : ∀ (E : String) (ce : Cell) (q9 : Addr) (u : SX) (t : State) (H1 : Heap) (locs1 : List Loc), t.heap = H1 → s.vm.Alike t.vm → px u → BX E u t → H.size ≤ H1.size → (∀ q : Nat, q < H.size → ¬ AX q → H1[q]? = H[q]?) → va_S A0 H0 H1 locs1 → H1[q9]? = some ce → ce.vm = .none → s.vm.findClass E = some ce.cls → vx_W p l e R s m args below meth c H1 locs1 (cells + mc) (slots + ms) Q (F0 m pc ls rest) q9)
    (kk : ∀ (r : UInt32) (u : S) (t : State) (H1 : Heap) (locs1 : List Loc), t.heap = H1 → s.vm.Alike t.vm → post r u → B u t → H.size ≤ H1.size → (∀ q : Nat, q < H.size → ¬ A1 q → H1[q]? = H[q]?) → va_S A0 H0 H1 locs1 → W p l e R s m args below meth c H1 locs1 (cells + mc) (slots + ms) Q (F0 m (pc + 5) ls (.float r :: rest))) : W p l e R s m args below meth c H locs cells slots Q (F0 m pc ls st0) := by
  intro T hT X
  rcases hr T hT X with ⟨v, st₀, t, T', L, h0, X', hL, e1, e2, ⟨⟨r, u, hv, hp, hb⟩, hF⟩, st⟩ | ⟨q, st₀, t, T', L, E, ce, h0, X', hL, e1, e2, ⟨u, hp, hb, hF⟩, hce, hcv, hcl, st⟩
  · cases hv
    obtain ⟨k1, k2, k3⟩ := vx_keep h0 e1 hS hA hf hL hF
    obtain ⟨t2, a1, b1⟩ := kk r u t T'.heap (locs ++ L) e1.symm (by rw [← e2]; exact X'.warmed.alike) hp hb k1 k2 k3 T' rfl X'
    exact ⟨t2, st t2 a1, b1⟩
  · obtain ⟨k1, k2, k3⟩ := vx_keep h0 e1 hS hAX hf hL hF
    obtain ⟨t2, a1, b1⟩ := kx E ce q u t T'.heap (locs ++ L) e1.symm (by rw [← e2]; exact X'.warmed.alike) hp hb k1 k2 k3 (by rw [e1]; exact hce) hcv hcl T' rfl X'
    exact ⟨t2, st.trans a1, b1⟩
theorem vx_callFd {S SX : Type} {post : UInt64 → S → Prop} {px : SX → Prop} {B : S → State → Prop} {BX : String → SX → State → Prop} {AX : Nat → Prop} (hr : vx_Run5 p l e R s m args below meth c H locs cells slots mc ms (F0 m pc ls st0) rest (va_Qd post B A1 a) (vx_X px BX AX) free) (hS : va_S A0 H0 H locs) (hA : ∀ q, q < H.size → A1 q → A0 q) (hf : ∀ q, free q → A0 q) (hAX : ∀ q, q < H.size → AX q → A0 q)
    (kx : ∀ (E : String) (ce : Cell) (q9 : Addr) (u : SX) (t : State) (H1 : Heap) (locs1 : List Loc), t.heap = H1 → s.vm.Alike t.vm → px u → BX E u t → H.size ≤ H1.size → (∀ q : Nat, q < H.size → ¬ AX q → H1[q]? = H[q]?) → va_S A0 H0 H1 locs1 → H1[q9]? = some ce → ce.vm = .none → s.vm.findClass E = some ce.cls → vx_W p l e R s m args below meth c H1 locs1 (cells + mc) (slots + ms) Q (F0 m pc ls rest) q9)
    (kk : ∀ (r : UInt64) (u : S) (t : State) (H1 : Heap) (locs1 : List Loc), t.heap = H1 → s.vm.Alike t.vm → post r u → B u t → H.size ≤ H1.size → (∀ q : Nat, q < H.size → ¬ A1 q → H1[q]? = H[q]?) → va_S A0 H0 H1 locs1 → W p l e R s m args below meth c H1 locs1 (cells + mc) (slots + ms) Q (F0 m (pc + 5) ls (.double r :: rest))) : W p l e R s m args below meth c H locs cells slots Q (F0 m pc ls st0) := by
  intro T hT X
  rcases hr T hT X with ⟨v, st₀, t, T', L, h0, X', hL, e1, e2, ⟨⟨r, u, hv, hp, hb⟩, hF⟩, st⟩ | ⟨q, st₀, t, T', L, E, ce, h0, X', hL, e1, e2, ⟨u, hp, hb, hF⟩, hce, hcv, hcl, st⟩
  · cases hv
    obtain ⟨k1, k2, k3⟩ := vx_keep h0 e1 hS hA hf hL hF
    obtain ⟨t2, a1, b1⟩ := kk r u t T'.heap (locs ++ L) e1.symm (by rw [← e2]; exact X'.warmed.alike) hp hb k1 k2 k3 T' rfl X'
    exact ⟨t2, st t2 a1, b1⟩
  · obtain ⟨k1, k2, k3⟩ := vx_keep h0 e1 hS hAX hf hL hF
    obtain ⟨t2, a1, b1⟩ := kx E ce q u t T'.heap (locs ++ L) e1.symm (by rw [← e2]; exact X'.warmed.alike) hp hb k1 k2 k3 (by rw [e1]; exact hce) hcv hcl T' rfl X'
    exact ⟨t2, st.trans a1, b1⟩
end
/-! ===== END ===== -/
/-! ===== BEGIN by an interface, a method with a table of its own that may throw (follows va_callIFW, va_runFW) ===== -/
section
variable {p : Program} {l : Launch} {e : Env} {R : Room} {s : State} {m : MethodId} {args : Array Value} {below : List Frame} {meth : Method} {c : Code} {H : Heap} {locs : List Loc} {cells slots : Nat}
theorem vx_callIFW {T : State} (X : Stand p l e R s m args below meth c T locs cells slots) (hexec : p.tables.exec = Jvm.exec) {own C : String} {index count : Nat} {x y : MethodName} {bytes : ByteArray} {maxL : Nat} {ret : Option FieldType} {hh : List (Nat × Nat × Nat × Nat)}
    (hown : s.vm.findClass own = some m.cls) (hlink : (Cond.methodLink own index x).before args s = true) (hdecl : (Cond.declares x).before args s = true) (hface : (Cond.interfaceMethod x.cls x.cls x.name x.desc).before args s = true)
    (hsel : (Cond.selects C x y).before args s = true) (hinst : (Cond.instanceMethod y).before args s = true) (hpub : (Cond.publicMethod y).before args s = true) (hunh : (Cond.unhidden C x.name x.desc).before args s = true)
    (hcast : (Cond.castable C x.cls).before args s = true) (hcode : (Cond.codeWith y bytes maxL ret hh).before args s = true) (hx : x.cls ≠ "java/lang/invoke/MethodHandle" ∧ x.cls ≠ "java/lang/invoke/VarHandle")
    {W : Nat} {Pre : Pt → Array Value → Prop} {Post : Pt → Array Value → Option Value → Pt → Prop} {PostX : Pt → Array Value → Addr → Pt → Prop} (hK : vx_Back l R p e below s args y 5 W Pre Post PostX)
    {b : Addr} {cellB : Cell} {kB : Class} (hcell : T.heap[b]? = some cellB) (hobj : cellB.vm.isStatics = false) (hcls : s.vm.findClass C = some cellB.cls) (hkB : s.vm.classes[cellB.cls]? = some kB)
    {g : JFrame} (hg : g.method = m) (hsize : g.locals.size = c.maxLocals) {argsL rest : List Value} (hlen : ∀ sig, parseMethodDescriptor x.desc = some sig → argsL.length = sig.parameters.length)
    (hstack : g.stack = argsL.reverse ++ .ref b :: rest) (hW : 2 * g.monitorRoom + (rest.map fun v => v.category).sum ≤ W) (hdg : decode c.code g.pc = .ok (.invokeinterface index count, 5))
    (hpre : ∀ vm₁, s.WarmedH vm₁ → Pre ⟨T.setVm vm₁, locs, cells, slots⟩ (Value.ref b :: argsL).toArray) :
    (∃ (v : Option Value) (vm₁ : Vm) (B : Pt), s.WarmedH vm₁ ∧ Stand p l e R s m args below meth c B.U B.locs B.cells B.slots ∧ Post ⟨T.setVm vm₁, locs, cells, slots⟩ (Value.ref b :: argsL).toArray v B ∧
      ∀ target, Steps p.tables e below (B.U.setTop { g with pc := g.pc + 5, stack := v.toList ++ rest }) target → Steps p.tables e below (T.setTop g) target) ∨
    (∃ (q : Addr) (vm₁ : Vm) (B : Pt), s.WarmedH vm₁ ∧ Stand p l e R s m args below meth c B.U B.locs B.cells B.slots ∧ PostX ⟨T.setVm vm₁, locs, cells, slots⟩ (Value.ref b :: argsL).toArray q B ∧
      Steps p.tables e below (T.setTop g) ((B.U.setTop { g with stack := rest }).pushFrame (.throwing q))) := by
  obtain ⟨r0, r, hn, hrm, hstR, hsigR⟩ := Cond.declares_spec hdecl
  obtain ⟨cL, kL, r1, hcL, hkL, hiL, hfoundL, hn1⟩ := Cond.interfaceMethod_spec hface
  cases hn.symm.trans hn1
  have hr0cls : r0.cls = cL := Option.some.inj ((findClass_of_methodNamed hn).symm.trans hcL)
  obtain ⟨hnameR, hdescR⟩ := name_of_methodNamed hn hrm
  obtain ⟨mk, methM, hnamed, hmethM, -, habM⟩ := Cond.instanceMethod_spec hinst
  obtain ⟨c2, r2, m2, q1, q2, q3, q4, -⟩ := Cond.selects_spec hsel
  cases hcls.symm.trans q1
  cases hfoundL.symm.trans q2
  cases hnamed.symm.trans q3
  have hselP : selectMethod e.platform s.vm cellB.cls r0 = .method mk := by rw [Launch.admits_selectMethod X.admits]; exact q4
  have hpubM : hasFlag methM.accessFlags Acc.public_ = true := Cond.publicMethod_spec hnamed hmethM hpub
  have hway : ((cellB.cls :: s.vm.superclasses cellB.cls).any fun k => (declaredIn s.vm r.name r.desc k).any fun (_, z) => z.isPrivate || z.isStatic) = false := by
    rw [hnameR, hdescR]; exact Cond.unhidden_spec hcls hunh
  obtain ⟨c3, t3, w1, w2, w3⟩ := Cond.castable_spec hcast
  cases hcls.symm.trans w1
  cases hcL.symm.trans w2
  obtain ⟨vm₁, X₁, hstep₁⟩ := X.invokeinterface hexec hown hlink hn hrm hstR (by rw [hr0cls]; exact hkL) hiL hx (a := b) (cell := cellB) (kcell := kB) hcell
    (fun z h => by rw [h] at hobj; cases hobj) hkB (by rw [hr0cls]; exact w3) hselP hmethM hway hpubM habM (g := g) hg (argsL := argsL) (rest := rest) (hlen _ hsigR) hstack hdg
  rcases hK m meth c ⟨T.setVm vm₁, locs, cells, slots⟩ { g with stack := rest } (.invokeinterface index count) mk (Value.ref b :: argsL).toArray X₁ hg hsize hdg hW (X₁.named hnamed) (hpre vm₁ X₁.warmed) with ⟨v, B, X', hpost, hsteps⟩ | ⟨q, B, X', hpost, hsteps⟩
  · exact Or.inl ⟨v, vm₁, B, X₁.warmed, X', hpost, fun target h => hstep₁ _ fun acts => by rw [doInvoke_state]; exact hsteps.trans h⟩
  · exact Or.inr ⟨q, vm₁, B, X₁.warmed, X', hpost, hstep₁ _ fun acts => by rw [doInvoke_state]; exact hsteps⟩
theorem vx_runFW {x y : MethodName} {bytes cc : ByteArray} {maxL nL mc ms n index count : Nat} {ret : Option FieldType} {hh : List (Nat × Nat × Nat × Nat)} {ws : List Cond} {rm : Room} {Pc : Array Value → State → Prop} {Qc : Array Value → State → Outcome → State → Prop} {XC : String → State → State → Prop} {free : Addr → Prop} {Ts : List Cond} {own C : String} {cC : ClassId} {b : Addr} {As rest : List Value} {g : JFrame}
    (hat : ClassAt s C cC) (S : CallFix p m c cc nL s args Ts own) (hM : vx_Met l y ws rm Pc Qc XC mc ms free) (cw : va_CIW R s args own C index x y bytes maxL ret hh ws rm mc ms n) (hp : PreV s H C b Pc As)
    (hg : g.method = m) (hn : As.length = n) (hsize : g.locals.size = nL) (hstack : g.stack = As.reverse ++ .ref b :: rest) (hW : 2 * g.monitorRoom + (rest.map fun v => v.category).sum ≤ 8) (hdg : decode cc g.pc = .ok (.invokeinterface index count, 5)) (hf : cells + mc ≤ R.cells ∧ slots + ms ≤ R.slots) :
    vx_Run5 p l e R s m args below meth c H locs cells slots mc ms g rest (Qc (Value.ref b :: As).toArray) XC free := by
  obtain ⟨hrc, hrs, hfr, hlo, hws, hcw⟩ := cw.back
  have hini := cw.init
  have hK : vx_Back l R p e below s args y 5 8 (PreOf R mc ms Pc) (PostOf Qc mc ms free) (vx_Post XC mc ms free) := vx_backW (hh := hh) (bytes := bytes) (maxL := maxL) (ret := ret) hM hp.1 hrc hrs hfr hlo hws hcw (fun a' U hW => word_at hW (Or.inl (by first | rfl | simp [Cond.onTables, Cond.keeps, Cond.steady])) hini)
  obtain ⟨hx, hb, hml, ho, -⟩ := S
  obtain ⟨-, ⟨cellB, hcB, hoB, hclB⟩, hPc⟩ := hp
  obtain ⟨hfc, kB, hkB, -⟩ := hat
  cases hfc.symm.trans hclB
  intro T hT X
  rcases vx_callIFW X hx (C := C) (hh := hh) (bytes := bytes) (maxL := maxL) (ret := ret) ho cw.link cw.decl cw.face cw.sel cw.inst cw.pub cw.unh cw.cast cw.code cw.notMH hK (by rw [hT]; exact hcB) hoB hclB hkB hg (hsize.trans hml.symm) (argsL := As) (rest := rest) (fun sig h => hn.trans (cw.len sig h)) hstack hW (by rw [hb]; exact hdg)
    (fun vm₁ hW₁ => ⟨hf.1, hf.2, hPc (T.setVm vm₁) hT hW₁⟩) with ⟨v, vm₁, ⟨U', l2, c2, s2⟩, hW₁, X', ⟨g', mk, t, L, e1, e2, hq, h1, hL, h2, h3⟩, st⟩ | ⟨q, vm₁, ⟨U', l2, c2, s2⟩, hW₁, X', ⟨g', mk, t, L, E, ce, e1, e2, hq, hce, hcv, hcl, h1, hL, h2, h3⟩, st⟩
  · dsimp only [Pt.U, Pt.locs, Pt.cells, Pt.slots] at X' e1 e2 h1 h2 h3 st
    subst h1; subst h2; subst h3
    exact Or.inl ⟨v, (T.setVm vm₁).calling g' mk (Value.ref b :: As).toArray, t, U', L, hT, X', hL, e1, e2, hq, st⟩
  · dsimp only [Pt.U, Pt.locs, Pt.cells, Pt.slots] at X' e1 e2 h1 h2 h3 st hcl
    subst h1; subst h2; subst h3
    exact Or.inr ⟨q, (T.setVm vm₁).calling g' mk (Value.ref b :: As).toArray, t, U', L, E, ce, hT, X', hL, e1, e2, hq, hce, hcv, vx_cls hW₁ hcl, st⟩
end
/-! ===== END ===== -/
/-! ===== BEGIN .. of methods that hand back an object of the pool ===== -/
section
variable {p : Program} {l : Launch} {e : Env} {R : Room} {s : State} {m : MethodId} {args : Array Value} {below : List Frame} {meth : Method} {c : Code} {H : Heap} {locs : List Loc} {cells slots : Nat} {Q : State → Prop}
variable {mc ms : Nat} {free : Addr → Prop} {A0 A1 : Nat → Prop} {H0 : Heap} {a : Array Value} {pc : Nat} {ls : Array Slot} {st0 rest : List Value}
theorem vx_callq {S SX : Type} {post : Option Nat → S → Prop} {px : SX → Prop} {B : S → State → Prop} {BX : String → SX → State → Prop} {AX : Nat → Prop} (hr : vx_Run p l e R s m args below meth c H locs cells slots mc ms (F0 m pc ls st0) rest (va_Qq post B A1 a) (vx_X px BX AX) free) (hS : va_S A0 H0 H locs) (hA : ∀ q, q < H.size → A1 q → A0 q) (hf : ∀ q, free q → A0 q) (hAX : ∀ q, q < H.size → AX q → A0 q)
    (kx : ∀ (E : String) (ce : Cell) (q9 : Addr) (u : SX) (t : State) (H1 : Heap) (locs1 : List Loc), t.heap = H1 → s.vm.Alike t.vm → px u → BX E u t → H.size ≤ H1.size → (∀ q : Nat, q < H.size → ¬ AX q → H1[q]? = H[q]?) → va_S A0 H0 H1 locs1 → H1[q9]? = some ce → ce.vm = .none → s.vm.findClass E = some ce.cls → vx_W p l e R s m args below meth c H1 locs1 (cells + mc) (slots + ms) Q (F0 m pc ls rest) q9)
    (kk : ∀ (r : Option Nat) (u : S) (t : State) (H1 : Heap) (locs1 : List Loc), t.heap = H1 → s.vm.Alike t.vm → post r u → B u t → H.size ≤ H1.size → (∀ q : Nat, q < H.size → ¬ A1 q → H1[q]? = H[q]?) → va_S A0 H0 H1 locs1 → W p l e R s m args below meth c H1 locs1 (cells + mc) (slots + ms) Q (F0 m (pc + 3) ls (va_rf r :: rest))) : W p l e R s m args below meth c H locs cells slots Q (F0 m pc ls st0) := by
  intro T hT X
  rcases hr T hT X with ⟨v, st₀, t, T', L, h0, X', hL, e1, e2, ⟨⟨r, u, hv, hp, hb⟩, hF⟩, st⟩ | ⟨q, st₀, t, T', L, E, ce, h0, X', hL, e1, e2, ⟨u, hp, hb, hF⟩, hce, hcv, hcl, st⟩
  · cases hv
    obtain ⟨k1, k2, k3⟩ := vx_keep h0 e1 hS hA hf hL hF
    obtain ⟨t2, a1, b1⟩ := kk r u t T'.heap (locs ++ L) e1.symm (by rw [← e2]; exact X'.warmed.alike) hp hb k1 k2 k3 T' rfl X'
    exact ⟨t2, st t2 a1, b1⟩
  · obtain ⟨k1, k2, k3⟩ := vx_keep h0 e1 hS hAX hf hL hF
    obtain ⟨t2, a1, b1⟩ := kx E ce q u t T'.heap (locs ++ L) e1.symm (by rw [← e2]; exact X'.warmed.alike) hp hb k1 k2 k3 (by rw [e1]; exact hce) hcv hcl T' rfl X'
    exact ⟨t2, st.trans a1, b1⟩
end
/-! ===== END ===== -/
/-! ===== BEGIN .. a constant ===== -/
section
variable {p : Program} {l : Launch} {e : Env} {R : Room} {s : State} {m : MethodId} {args : Array Value} {below : List Frame} {meth : Method} {c : Code} {H : Heap} {locs : List Loc} {cells slots : Nat} {Q : State → Prop}
variable {mc ms : Nat} {free : Addr → Prop} {A0 A1 : Nat → Prop} {H0 : Heap} {a : Array Value} {pc : Nat} {ls : Array Slot} {st0 rest : List Value}
theorem vx_calle {ad : Nat → Nat} {S SX : Type} {post : Option Nat → S → Prop} {px : SX → Prop} {B : S → State → Prop} {BX : String → SX → State → Prop} {AX : Nat → Prop} (hr : vx_Run p l e R s m args below meth c H locs cells slots mc ms (F0 m pc ls st0) rest (va_Qe ad post B A1 a) (vx_X px BX AX) free) (hS : va_S A0 H0 H locs) (hA : ∀ q, q < H.size → A1 q → A0 q) (hf : ∀ q, free q → A0 q) (hAX : ∀ q, q < H.size → AX q → A0 q)
    (kx : ∀ (E : String) (ce : Cell) (q9 : Addr) (u : SX) (t : State) (H1 : Heap) (locs1 : List Loc), t.heap = H1 → s.vm.Alike t.vm → px u → BX E u t → H.size ≤ H1.size → (∀ q : Nat, q < H.size → ¬ AX q → H1[q]? = H[q]?) → va_S A0 H0 H1 locs1 → H1[q9]? = some ce → ce.vm = .none → s.vm.findClass E = some ce.cls → vx_W p l e R s m args below meth c H1 locs1 (cells + mc) (slots + ms) Q (F0 m pc ls rest) q9)
    (kk : ∀ (r : Option Nat) (u : S) (t : State) (H1 : Heap) (locs1 : List Loc), t.heap = H1 → s.vm.Alike t.vm → post r u → B u t → H.size ≤ H1.size → (∀ q : Nat, q < H.size → ¬ A1 q → H1[q]? = H[q]?) → va_S A0 H0 H1 locs1 → W p l e R s m args below meth c H1 locs1 (cells + mc) (slots + ms) Q (F0 m (pc + 3) ls (va_re ad r :: rest))) : W p l e R s m args below meth c H locs cells slots Q (F0 m pc ls st0) := by
  intro T hT X
  rcases hr T hT X with ⟨v, st₀, t, T', L, h0, X', hL, e1, e2, ⟨⟨r, u, hv, hp, hb⟩, hF⟩, st⟩ | ⟨q, st₀, t, T', L, E, ce, h0, X', hL, e1, e2, ⟨u, hp, hb, hF⟩, hce, hcv, hcl, st⟩
  · cases hv
    obtain ⟨k1, k2, k3⟩ := vx_keep h0 e1 hS hA hf hL hF
    obtain ⟨t2, a1, b1⟩ := kk r u t T'.heap (locs ++ L) e1.symm (by rw [← e2]; exact X'.warmed.alike) hp hb k1 k2 k3 T' rfl X'
    exact ⟨t2, st t2 a1, b1⟩
  · obtain ⟨k1, k2, k3⟩ := vx_keep h0 e1 hS hAX hf hL hF
    obtain ⟨t2, a1, b1⟩ := kx E ce q u t T'.heap (locs ++ L) e1.symm (by rw [← e2]; exact X'.warmed.alike) hp hb k1 k2 k3 (by rw [e1]; exact hce) hcv hcl T' rfl X'
    exact ⟨t2, st.trans a1, b1⟩
end
/-! ===== END ===== -/
/-! ===== BEGIN .. by an interface, an object ===== -/
section
variable {p : Program} {l : Launch} {e : Env} {R : Room} {s : State} {m : MethodId} {args : Array Value} {below : List Frame} {meth : Method} {c : Code} {H : Heap} {locs : List Loc} {cells slots : Nat} {Q : State → Prop}
variable {mc ms : Nat} {free : Addr → Prop} {A0 A1 : Nat → Prop} {H0 : Heap} {a : Array Value} {pc : Nat} {ls : Array Slot} {st0 rest : List Value}
theorem vx_callFq {S SX : Type} {post : Option Nat → S → Prop} {px : SX → Prop} {B : S → State → Prop} {BX : String → SX → State → Prop} {AX : Nat → Prop} (hr : vx_Run5 p l e R s m args below meth c H locs cells slots mc ms (F0 m pc ls st0) rest (va_Qq post B A1 a) (vx_X px BX AX) free) (hS : va_S A0 H0 H locs) (hA : ∀ q, q < H.size → A1 q → A0 q) (hf : ∀ q, free q → A0 q) (hAX : ∀ q, q < H.size → AX q → A0 q)
    (kx : ∀ (E : String) (ce : Cell) (q9 : Addr) (u : SX) (t : State) (H1 : Heap) (locs1 : List Loc), t.heap = H1 → s.vm.Alike t.vm → px u → BX E u t → H.size ≤ H1.size → (∀ q : Nat, q < H.size → ¬ AX q → H1[q]? = H[q]?) → va_S A0 H0 H1 locs1 → H1[q9]? = some ce → ce.vm = .none → s.vm.findClass E = some ce.cls → vx_W p l e R s m args below meth c H1 locs1 (cells + mc) (slots + ms) Q (F0 m pc ls rest) q9)
    (kk : ∀ (r : Option Nat) (u : S) (t : State) (H1 : Heap) (locs1 : List Loc), t.heap = H1 → s.vm.Alike t.vm → post r u → B u t → H.size ≤ H1.size → (∀ q : Nat, q < H.size → ¬ A1 q → H1[q]? = H[q]?) → va_S A0 H0 H1 locs1 → W p l e R s m args below meth c H1 locs1 (cells + mc) (slots + ms) Q (F0 m (pc + 5) ls (va_rf r :: rest))) : W p l e R s m args below meth c H locs cells slots Q (F0 m pc ls st0) := by
  intro T hT X
  rcases hr T hT X with ⟨v, st₀, t, T', L, h0, X', hL, e1, e2, ⟨⟨r, u, hv, hp, hb⟩, hF⟩, st⟩ | ⟨q, st₀, t, T', L, E, ce, h0, X', hL, e1, e2, ⟨u, hp, hb, hF⟩, hce, hcv, hcl, st⟩
  · cases hv
    obtain ⟨k1, k2, k3⟩ := vx_keep h0 e1 hS hA hf hL hF
    obtain ⟨t2, a1, b1⟩ := kk r u t T'.heap (locs ++ L) e1.symm (by rw [← e2]; exact X'.warmed.alike) hp hb k1 k2 k3 T' rfl X'
    exact ⟨t2, st t2 a1, b1⟩
  · obtain ⟨k1, k2, k3⟩ := vx_keep h0 e1 hS hAX hf hL hF
    obtain ⟨t2, a1, b1⟩ := kx E ce q u t T'.heap (locs ++ L) e1.symm (by rw [← e2]; exact X'.warmed.alike) hp hb k1 k2 k3 (by rw [e1]; exact hce) hcv hcl T' rfl X'
    exact ⟨t2, st.trans a1, b1⟩
end
/-! ===== END ===== -/
/-! ===== BEGIN .. by an interface, a constant ===== -/
section
variable {p : Program} {l : Launch} {e : Env} {R : Room} {s : State} {m : MethodId} {args : Array Value} {below : List Frame} {meth : Method} {c : Code} {H : Heap} {locs : List Loc} {cells slots : Nat} {Q : State → Prop}
variable {mc ms : Nat} {free : Addr → Prop} {A0 A1 : Nat → Prop} {H0 : Heap} {a : Array Value} {pc : Nat} {ls : Array Slot} {st0 rest : List Value}
theorem vx_callFe {ad : Nat → Nat} {S SX : Type} {post : Option Nat → S → Prop} {px : SX → Prop} {B : S → State → Prop} {BX : String → SX → State → Prop} {AX : Nat → Prop} (hr : vx_Run5 p l e R s m args below meth c H locs cells slots mc ms (F0 m pc ls st0) rest (va_Qe ad post B A1 a) (vx_X px BX AX) free) (hS : va_S A0 H0 H locs) (hA : ∀ q, q < H.size → A1 q → A0 q) (hf : ∀ q, free q → A0 q) (hAX : ∀ q, q < H.size → AX q → A0 q)
    (kx : ∀ (E : String) (ce : Cell) (q9 : Addr) (u : SX) (t : State) (H1 : Heap) (locs1 : List Loc), t.heap = H1 → s.vm.Alike t.vm → px u → BX E u t → H.size ≤ H1.size → (∀ q : Nat, q < H.size → ¬ AX q → H1[q]? = H[q]?) → va_S A0 H0 H1 locs1 → H1[q9]? = some ce → ce.vm = .none → s.vm.findClass E = some ce.cls → vx_W p l e R s m args below meth c H1 locs1 (cells + mc) (slots + ms) Q (F0 m pc ls rest) q9)
    (kk : ∀ (r : Option Nat) (u : S) (t : State) (H1 : Heap) (locs1 : List Loc), t.heap = H1 → s.vm.Alike t.vm → post r u → B u t → H.size ≤ H1.size → (∀ q : Nat, q < H.size → ¬ A1 q → H1[q]? = H[q]?) → va_S A0 H0 H1 locs1 → W p l e R s m args below meth c H1 locs1 (cells + mc) (slots + ms) Q (F0 m (pc + 5) ls (va_re ad r :: rest))) : W p l e R s m args below meth c H locs cells slots Q (F0 m pc ls st0) := by
  intro T hT X
  rcases hr T hT X with ⟨v, st₀, t, T', L, h0, X', hL, e1, e2, ⟨⟨r, u, hv, hp, hb⟩, hF⟩, st⟩ | ⟨q, st₀, t, T', L, E, ce, h0, X', hL, e1, e2, ⟨u, hp, hb, hF⟩, hce, hcv, hcl, st⟩
  · cases hv
    obtain ⟨k1, k2, k3⟩ := vx_keep h0 e1 hS hA hf hL hF
    obtain ⟨t2, a1, b1⟩ := kk r u t T'.heap (locs ++ L) e1.symm (by rw [← e2]; exact X'.warmed.alike) hp hb k1 k2 k3 T' rfl X'
    exact ⟨t2, st t2 a1, b1⟩
  · obtain ⟨k1, k2, k3⟩ := vx_keep h0 e1 hS hAX hf hL hF
    obtain ⟨t2, a1, b1⟩ := kx E ce q u t T'.heap (locs ++ L) e1.symm (by rw [← e2]; exact X'.warmed.alike) hp hb k1 k2 k3 (by rw [e1]; exact hce) hcv hcl T' rfl X'
    exact ⟨t2, st.trans a1, b1⟩
end
/-! ===== END ===== -/
/-! ===== BEGIN what the machine throws by itself: null at a field, at athrow ===== -/
section VXM2
variable {p : Program} {l : Launch} {e : Env} {R : Room} {s : State} {m : MethodId} {args : Array Value} {below : List Frame} {meth : Method} {c : Code} {H : Heap} {locs : List Loc} {cells slots : Nat}
variable {Q : State → Prop} {cc : ByteArray} {pc : Nat} {ls : Array Slot} {rest : List Value}
theorem vx_getfN {D cl tys} {own ref C : String} {T : u_T} {N ci index : Nat} {Ts : List Cond} (hexec : p.tables.exec = Jvm.exec) (hb : c.code = cc) (hts : ∀ w ∈ Ts, w.before args s = true) (hin : ∀ w ∈ u_ws C T N, w ∈ Ts) (hown : s.vm.findClass own = some m.cls) (hK : va_K D cl tys s) (hc : cl[ci]? = some (C, T, N)) (k : Nat) (hk : k < N) (hlink : (Cond.fieldLink own index ref (T k).2.1 (T k).2.2.1).before args s = true) (hsame : ∀ x, s.fieldFound? (T k).1 (T k).2.1 (T k).2.2.1 = some x → s.fieldFound? ref (T k).2.1 (T k).2.2.1 = some x) (hdg : decode cc pc = .ok (.getfield index, 3)) (kk : vx_NoteN p l e R s m args below meth c H locs cells slots Q (F0 m pc ls rest)) : W p l e R s m args below meth c H locs cells slots Q (F0 m pc ls (.null :: rest)) := by
  obtain ⟨hS, hfc, kC, hkC, -⟩ := hK.1 ci _ hc
  obtain ⟨cf, kf, fi, f, hi, -⟩ := hS k hk
  intro U hU X
  obtain ⟨vm', X1, st1⟩ := X.getfieldNull hexec hown hlink (hsame _ hi) (u_facts hfc hkC (u_lays hts hin hk) hi).1 (g := F0 m pc ls (.null :: rest)) rfl (rest := rest) rfl (by rw [hb]; exact hdg)
  obtain ⟨t, st, q⟩ := kk (U.setVm vm') hU X1
  exact ⟨t, st1 t st, q⟩
theorem vx_getfNN {D cl tys} {own ref C host : String} {T : u_T} {N ci index : Nat} {Ts : List Cond} (hexec : p.tables.exec = Jvm.exec) (hb : c.code = cc) (hts : ∀ w ∈ Ts, w.before args s = true) (hin : ∀ w ∈ u_ws C T N, w ∈ Ts) (hown : s.vm.findClass own = some m.cls) (hK : va_K D cl tys s) (hc : cl[ci]? = some (C, T, N)) (k : Nat) (hk : k < N) (hlink : (Cond.fieldLinkNest own index ref (T k).2.1 (T k).2.2.1 host).before args s = true) (hsame : ∀ x, s.fieldFound? (T k).1 (T k).2.1 (T k).2.2.1 = some x → s.fieldFound? ref (T k).2.1 (T k).2.2.1 = some x) (hdg : decode cc pc = .ok (.getfield index, 3)) (kk : vx_NoteN p l e R s m args below meth c H locs cells slots Q (F0 m pc ls rest)) : W p l e R s m args below meth c H locs cells slots Q (F0 m pc ls (.null :: rest)) := by
  obtain ⟨hS, hfc, kC, hkC, -⟩ := hK.1 ci _ hc
  obtain ⟨cf, kf, fi, f, hi, -⟩ := hS k hk
  intro U hU X
  obtain ⟨vm', X1, st1⟩ := X.getfieldNullNest hexec hown hlink (hsame _ hi) (u_facts hfc hkC (u_lays hts hin hk) hi).1 (g := F0 m pc ls (.null :: rest)) rfl (rest := rest) rfl (by rw [hb]; exact hdg)
  obtain ⟨t, st, q⟩ := kk (U.setVm vm') hU X1
  exact ⟨t, st1 t st, q⟩
theorem vx_putfN {D cl tys} {own ref C : String} {T : u_T} {N ci index : Nat} {Ts : List Cond} (hexec : p.tables.exec = Jvm.exec) (hb : c.code = cc) (hts : ∀ w ∈ Ts, w.before args s = true) (hin : ∀ w ∈ u_ws C T N, w ∈ Ts) (hown : s.vm.findClass own = some m.cls) (hK : va_K D cl tys s) (hc : cl[ci]? = some (C, T, N)) (k : Nat) (hk : k < N) (hlink : (Cond.fieldLink own index ref (T k).2.1 (T k).2.2.1).before args s = true) (hsame : ∀ x, s.fieldFound? (T k).1 (T k).2.1 (T k).2.2.1 = some x → s.fieldFound? ref (T k).2.1 (T k).2.2.1 = some x) (hfin : (T k).2.2.2 = false) {v : Value} (hdg : decode cc pc = .ok (.putfield index, 3)) (kk : vx_NoteN p l e R s m args below meth c H locs cells slots Q (F0 m pc ls rest)) : W p l e R s m args below meth c H locs cells slots Q (F0 m pc ls (v :: .null :: rest)) := by
  obtain ⟨hS, hfc, kC, hkC, -⟩ := hK.1 ci _ hc
  obtain ⟨cf, kf, fi, f, hi, -⟩ := hS k hk
  have hlay := hts _ (hin _ (u_in_lay hk))
  unfold u_lay at hlay
  rw [if_neg (by rw [hfin]; decide)] at hlay
  obtain ⟨c9, k9, cf9, kf9, fi9, f9, -, -, hi9, hst9, hnf9, -⟩ := Cond.lays_spec hlay
  cases hi.symm.trans hi9
  intro U hU X
  obtain ⟨vm', X1, st1⟩ := X.putfieldNull hexec hown hlink (hsame _ hi) hst9 hnf9 (g := F0 m pc ls (v :: .null :: rest)) rfl (v := v) (rest := rest) rfl (by rw [hb]; exact hdg)
  obtain ⟨t, st, q⟩ := kk (U.setVm vm') hU X1
  exact ⟨t, st1 t st, q⟩
theorem vx_putfNN {D cl tys} {own ref C host : String} {T : u_T} {N ci index : Nat} {Ts : List Cond} (hexec : p.tables.exec = Jvm.exec) (hb : c.code = cc) (hts : ∀ w ∈ Ts, w.before args s = true) (hin : ∀ w ∈ u_ws C T N, w ∈ Ts) (hown : s.vm.findClass own = some m.cls) (hK : va_K D cl tys s) (hc : cl[ci]? = some (C, T, N)) (k : Nat) (hk : k < N) (hlink : (Cond.fieldLinkNest own index ref (T k).2.1 (T k).2.2.1 host).before args s = true) (hsame : ∀ x, s.fieldFound? (T k).1 (T k).2.1 (T k).2.2.1 = some x → s.fieldFound? ref (T k).2.1 (T k).2.2.1 = some x) (hfin : (T k).2.2.2 = false) {v : Value} (hdg : decode cc pc = .ok (.putfield index, 3)) (kk : vx_NoteN p l e R s m args below meth c H locs cells slots Q (F0 m pc ls rest)) : W p l e R s m args below meth c H locs cells slots Q (F0 m pc ls (v :: .null :: rest)) := by
  obtain ⟨hS, hfc, kC, hkC, -⟩ := hK.1 ci _ hc
  obtain ⟨cf, kf, fi, f, hi, -⟩ := hS k hk
  have hlay := hts _ (hin _ (u_in_lay hk))
  unfold u_lay at hlay
  rw [if_neg (by rw [hfin]; decide)] at hlay
  obtain ⟨c9, k9, cf9, kf9, fi9, f9, -, -, hi9, hst9, hnf9, -⟩ := Cond.lays_spec hlay
  cases hi.symm.trans hi9
  intro U hU X
  obtain ⟨vm', X1, st1⟩ := X.putfieldNullNest hexec hown hlink (hsame _ hi) hst9 hnf9 (g := F0 m pc ls (v :: .null :: rest)) rfl (v := v) (rest := rest) rfl (by rw [hb]; exact hdg)
  obtain ⟨t, st, q⟩ := kk (U.setVm vm') hU X1
  exact ⟨t, st1 t st, q⟩
theorem vx_athrowN (hexec : p.tables.exec = Jvm.exec) (hb : c.code = cc) (hdg : decode cc pc = .ok (.athrow, 1)) (k : vx_NoteN p l e R s m args below meth c H locs cells slots Q (F0 m pc ls rest)) : W p l e R s m args below meth c H locs cells slots Q (F0 m pc ls (.null :: rest)) := by
  intro T hT X
  obtain ⟨t, st, q⟩ := k T hT X
  exact ⟨t, X.athrowNull hexec (g := F0 m pc ls (.null :: rest)) rfl (rest := rest) rfl (by rw [hb]; exact hdg) t st, q⟩
end VXM2
/-! ===== END ===== -/
end
section
/-! RI: a run of bytecode over closed data (a table of code, values that are constants, arguments or sums of such, references by numbers), and that it is sound for W. This part: values, and the instructions that touch neither heap nor course. -/
section RIA
def ri_gI : Value → Int32
  | .int x => x
  | _ => 0
def ri_gL : Value → Int64
  | .long x => x
  | _ => 0
def ri_gR : Value → Option Nat
  | .ref a => some a
  | _ => none
def ri_b32 (o : Binary) (x y : Int32) : Int32 := match o with
  | .iand => x &&& y
  | .ior => x ||| y
  | .ixor => x ^^^ y
  | .ishl => x <<< (y &&& 31)
  | .ishr => x >>> (y &&& 31)
  | .iushr => (x.toUInt32 >>> (y.toUInt32 &&& Int32.toUInt32 31)).toInt32
  | _ => 0
def ri_b64 (o : Binary) (x y : Int64) : Int64 := match o with
  | .ladd => x + y
  | .lsub => x - y
  | .lmul => x * y
  | .land => x &&& y
  | .lor => x ||| y
  | .lxor => x ^^^ y
  | _ => 0
/-- of what sort an answer is: 0 int, 1 long, 9 none -/
def ri_ko : Binary → Nat
  | .iand => 0 | .ior => 0 | .ixor => 0 | .ishl => 0 | .ishr => 0 | .iushr => 0
  | .ladd => 1 | .lsub => 1 | .lmul => 1 | .land => 1 | .lor => 1 | .lxor => 1
  | .lcmp => 2
  | _ => 9
def ri_cv (ρ : Nat → Int32) (sa : String → Nat → Nat) (ad : Nat → Nat) : Jvm.Term → Value
  | .arg i => .int (ρ i)
  | .int v => .int v
  | .long v => .long v
  | .null => .null
  | .index k => .ref (ad k)
  | .string c i => .ref (sa c i)
  | .add a b => .int (ri_gI (ri_cv ρ sa ad a) + ri_gI (ri_cv ρ sa ad b))
  | .sub a b => .int (ri_gI (ri_cv ρ sa ad a) - ri_gI (ri_cv ρ sa ad b))
  | .mul a b => .int (ri_gI (ri_cv ρ sa ad a) * ri_gI (ri_cv ρ sa ad b))
  | .div a b => .int (ri_gI (ri_cv ρ sa ad a) / ri_gI (ri_cv ρ sa ad b))
  | .rem a b => .int (ri_gI (ri_cv ρ sa ad a) - ri_gI (ri_cv ρ sa ad a) / ri_gI (ri_cv ρ sa ad b) * ri_gI (ri_cv ρ sa ad b))
  | .op2 o a b => match ri_ko o with
    | 0 => .int (ri_b32 o (ri_gI (ri_cv ρ sa ad a)) (ri_gI (ri_cv ρ sa ad b)))
    | 1 => .long (ri_b64 o (ri_gL (ri_cv ρ sa ad a)) (ri_gL (ri_cv ρ sa ad b)))
    | 2 => .int (lg_cmp (ri_gL (ri_cv ρ sa ad a)) (ri_gL (ri_cv ρ sa ad b)))
    | _ => .retAddr 0
  | .op1 o a => match o with
    | .ineg => .int (-ri_gI (ri_cv ρ sa ad a))
    | .i2l => .long (ri_gI (ri_cv ρ sa ad a)).toInt64
    | .l2i => .int (ri_gL (ri_cv ρ sa ad a)).toInt32
    | .bitsD => .double (ri_gL (ri_cv ρ sa ad a)).toUInt64
    | .bitsF => .float (ri_gI (ri_cv ρ sa ad a)).toUInt32
    | _ => .retAddr 0
  | _ => .retAddr 0
/-- 0 int, 1 long, 2 a reference, 3 null, 4 double, 5 float, 9 none -/
def ri_k : Jvm.Term → Nat
  | .arg _ => 0
  | .int _ => 0
  | .long _ => 1
  | .null => 3
  | .index _ => 2
  | .string _ _ => 2
  | .add _ _ => 0
  | .sub _ _ => 0
  | .mul _ _ => 0
  | .div _ _ => 0
  | .rem _ _ => 0
  | .op2 o _ _ => match ri_ko o with
    | 0 => 0
    | 1 => 1
    | 2 => 0
    | _ => 9
  | .op1 o _ => match o with
    | .ineg => 0
    | .i2l => 1
    | .l2i => 0
    | .bitsD => 4
    | .bitsF => 5
    | _ => 9
  | _ => 9
def ri_wide (t : Jvm.Term) : Bool := ri_k t == 1 || ri_k t == 4
section RIB
variable {ρ : Nat → Int32} {sa : String → Nat → Nat} {ad ad' : Nat → Nat}
/-- what a value is, by its sort -/
def ri_is (k : Nat) (v : Value) : Prop := (k = 0 → v = .int (ri_gI v)) ∧ (k = 1 → v = .long (ri_gL v)) ∧ (k = 2 → ∃ a, v = .ref a) ∧ (k = 3 → v = .null) ∧ (k = 4 → ∃ b, v = .double b) ∧ (k = 5 → ∃ b, v = .float b) ∧ (v.category = 2 → k = 1 ∨ k = 4) ∧ ((k = 1 ∨ k = 4) → v.category = 2)
theorem ri_is_i (x : Int32) : ri_is 0 (.int x) := by
  refine ⟨fun _ => rfl, ?_, ?_, ?_, ?_, ?_, ?_, ?_⟩ <;> intro h <;> first | (cases h; done) | (rcases h with h | h <;> cases h)
theorem ri_is_l (x : Int64) : ri_is 1 (.long x) := by
  refine ⟨?_, fun _ => rfl, ?_, ?_, ?_, ?_, fun _ => Or.inl rfl, fun _ => rfl⟩ <;> intro h <;> first | (cases h; done) | (rcases h with h | h <;> cases h)
theorem ri_is_r (x : Nat) : ri_is 2 (.ref x) := by
  refine ⟨?_, ?_, fun _ => ⟨_, rfl⟩, ?_, ?_, ?_, ?_, ?_⟩ <;> intro h <;> first | (cases h; done) | (rcases h with h | h <;> cases h)
theorem ri_is_n : ri_is 3 .null := by
  refine ⟨?_, ?_, ?_, fun _ => rfl, ?_, ?_, ?_, ?_⟩ <;> intro h <;> first | (cases h; done) | (rcases h with h | h <;> cases h)
theorem ri_is_d (x : UInt64) : ri_is 4 (.double x) := by
  refine ⟨?_, ?_, ?_, ?_, fun _ => ⟨_, rfl⟩, ?_, fun _ => Or.inr rfl, fun _ => rfl⟩ <;> intro h <;> first | (cases h; done) | (rcases h with h | h <;> cases h)
theorem ri_is_f (x : UInt32) : ri_is 5 (.float x) := by
  refine ⟨?_, ?_, ?_, ?_, ?_, fun _ => ⟨_, rfl⟩, ?_, ?_⟩ <;> intro h <;> first | (cases h; done) | (rcases h with h | h <;> cases h)
theorem ri_is_9 : ri_is 9 (.retAddr 0) := by
  refine ⟨?_, ?_, ?_, ?_, ?_, ?_, ?_, ?_⟩ <;> intro h <;> first | (cases h; done) | (rcases h with h | h <;> cases h)
theorem ri_cv_is (t : Jvm.Term) : ri_is (ri_k t) (ri_cv ρ sa ad t) := by
  cases t with
  | op2 o a b => cases o <;> first | exact ri_is_i _ | exact ri_is_l _ | exact ri_is_9
  | op1 o a => cases o <;> first | exact ri_is_i _ | exact ri_is_l _ | exact ri_is_d _ | exact ri_is_f _ | exact ri_is_9
  | _ => first | exact ri_is_i _ | exact ri_is_l _ | exact ri_is_r _ | exact ri_is_n | exact ri_is_9
theorem ri_I {t : Jvm.Term} (h : ri_k t = 0) : ri_cv ρ sa ad t = .int (ri_gI (ri_cv ρ sa ad t)) := (ri_cv_is t).1 h
theorem ri_L {t : Jvm.Term} (h : ri_k t = 1) : ri_cv ρ sa ad t = .long (ri_gL (ri_cv ρ sa ad t)) := (ri_cv_is t).2.1 h
theorem ri_R {t : Jvm.Term} (h : ri_k t = 2) : ∃ a, ri_cv ρ sa ad t = .ref a := (ri_cv_is t).2.2.1 h
theorem ri_N {t : Jvm.Term} (h : ri_k t = 3) : ri_cv ρ sa ad t = .null := (ri_cv_is t).2.2.2.1 h
theorem ri_Dd {t : Jvm.Term} (h : ri_k t = 4) : ∃ b, ri_cv ρ sa ad t = .double b := (ri_cv_is t).2.2.2.2.1 h
theorem ri_Ff {t : Jvm.Term} (h : ri_k t = 5) : ∃ b, ri_cv ρ sa ad t = .float b := (ri_cv_is t).2.2.2.2.2.1 h
theorem ri_cat2 {t : Jvm.Term} : (ri_cv ρ sa ad t).category = 2 ↔ ri_wide t = true := by
  have h := ri_cv_is (ρ := ρ) (sa := sa) (ad := ad) t
  unfold ri_wide
  rw [Bool.or_eq_true, beq_iff_eq, beq_iff_eq]
  exact ⟨h.2.2.2.2.2.2.1, h.2.2.2.2.2.2.2⟩
theorem ri_cat1 {t : Jvm.Term} (h : ri_wide t = false) : (ri_cv ρ sa ad t).category = 1 := by
  rcases lv_cat (ri_cv ρ sa ad t) with h1 | h1
  · exact h1
  · rw [ri_cat2.mp h1] at h; cases h
/-- an int or a long doesn't hang on where the cells lie -/
theorem ri_3 {sa' : String → Nat → Nat} {t : Jvm.Term} {P : Prop} (e : ri_cv ρ sa ad t = ri_cv ρ sa' ad' t) : ri_gI (ri_cv ρ sa ad t) = ri_gI (ri_cv ρ sa' ad' t) ∧ ri_gL (ri_cv ρ sa ad t) = ri_gL (ri_cv ρ sa' ad' t) ∧ (P → ri_cv ρ sa ad t = ri_cv ρ sa' ad' t) := ⟨by rw [e], by rw [e], fun _ => e⟩
theorem ri_key {sa' : String → Nat → Nat} (t : Jvm.Term) : ri_gI (ri_cv ρ sa ad t) = ri_gI (ri_cv ρ sa' ad' t) ∧ ri_gL (ri_cv ρ sa ad t) = ri_gL (ri_cv ρ sa' ad' t) ∧ ((∀ k, t ≠ .index k) ∧ (∀ c i, t ≠ .string c i) → ri_cv ρ sa ad t = ri_cv ρ sa' ad' t) := by
  induction t with
  | index k => exact ⟨rfl, rfl, fun h => absurd rfl (h.1 k)⟩
  | string c i => exact ⟨rfl, rfl, fun h => absurd rfl (h.2 c i)⟩
  | add a b ha hb => exact ri_3 (by simp only [ri_cv]; rw [ha.1, hb.1])
  | sub a b ha hb => exact ri_3 (by simp only [ri_cv]; rw [ha.1, hb.1])
  | mul a b ha hb => exact ri_3 (by simp only [ri_cv]; rw [ha.1, hb.1])
  | div a b ha hb => exact ri_3 (by simp only [ri_cv]; rw [ha.1, hb.1])
  | rem a b ha hb => exact ri_3 (by simp only [ri_cv]; rw [ha.1, hb.1])
  | op2 o a b ha hb => exact ri_3 (by simp only [ri_cv]; rw [ha.1, hb.1, ha.2.1, hb.2.1])
  | op1 o a ha => exact ri_3 (by simp only [ri_cv]; rw [ha.1, ha.2.1])
  | _ => exact ri_3 rfl
theorem ri_num (t : Jvm.Term) (h : ∀ k, t ≠ .index k) : ri_cv ρ sa ad t = ri_cv ρ sa ad' t := by
  by_cases hs : ∃ c i, t = .string c i
  · obtain ⟨c, i, rfl⟩ := hs
    rfl
  · exact (ri_key t).2.2 ⟨h, fun c i e => hs ⟨c, i, e⟩⟩
end RIB
/-- a constant, written by its number -/
def ri_cn : Nat → Jvm.Term
  | 0 => .int 0
  | k + 1 => .int (Int32.ofNat (k + 1))
def ri_ci (x : Int32) : Jvm.Term := ri_cn x.toBitVec.toNat
def ri_cnL : Nat → Jvm.Term
  | 0 => .long 0
  | k + 1 => .long (Int64.ofNat (k + 1))
def ri_cl (x : Int64) : Jvm.Term := ri_cnL x.toBitVec.toNat
theorem ri_ci_eq (x : Int32) : ri_ci x = .int x := by
  have h : ∀ n, ri_cn n = .int (Int32.ofNat n) := fun n => by cases n <;> rfl
  unfold ri_ci
  rw [h]
  congr 1
  apply Int32.toBitVec_inj.mp
  apply BitVec.eq_of_toNat_eq
  simp [Int32.ofNat]
theorem ri_cl_eq (x : Int64) : ri_cl x = .long x := by
  have h : ∀ n, ri_cnL n = .long (Int64.ofNat n) := fun n => by cases n <;> rfl
  unfold ri_cl
  rw [h]
  congr 1
  apply Int64.toBitVec_inj.mp
  apply BitVec.eq_of_toNat_eq
  simp [Int64.ofNat]
/-- an operation: of constants a constant -/
def ri_bin (f : Int32 → Int32 → Int32) (t a b : Jvm.Term) : Jvm.Term := match a, b with
  | .int x, .int y => ri_ci (f x y)
  | _, _ => t
def ri_binL (f : Int64 → Int64 → Int64) (t a b : Jvm.Term) : Jvm.Term := match a, b with
  | .long x, .long y => ri_cl (f x y)
  | _, _ => t
def ri_binC (t a b : Jvm.Term) : Jvm.Term := match a, b with
  | .long x, .long y => ri_ci (lg_cmp x y)
  | _, _ => t
def ri_un (f : Int32 → Int32) (t a : Jvm.Term) : Jvm.Term := match a with
  | .int x => ri_ci (f x)
  | _ => t
def ri_unIL (f : Int32 → Int64) (t a : Jvm.Term) : Jvm.Term := match a with
  | .int x => ri_cl (f x)
  | _ => t
def ri_unLI (f : Int64 → Int32) (t a : Jvm.Term) : Jvm.Term := match a with
  | .long x => ri_ci (f x)
  | _ => t
section RIC
variable {ρ : Nat → Int32} {sa : String → Nat → Nat} {ad : Nat → Nat}
theorem ri_bin_cv {f : Int32 → Int32 → Int32} {t a b : Jvm.Term} (h : ri_cv ρ sa ad t = .int (f (ri_gI (ri_cv ρ sa ad a)) (ri_gI (ri_cv ρ sa ad b)))) : ri_cv ρ sa ad (ri_bin f t a b) = .int (f (ri_gI (ri_cv ρ sa ad a)) (ri_gI (ri_cv ρ sa ad b))) := by
  unfold ri_bin
  split
  · rw [ri_ci_eq]; rfl
  · exact h
theorem ri_binL_cv {f : Int64 → Int64 → Int64} {t a b : Jvm.Term} (h : ri_cv ρ sa ad t = .long (f (ri_gL (ri_cv ρ sa ad a)) (ri_gL (ri_cv ρ sa ad b)))) : ri_cv ρ sa ad (ri_binL f t a b) = .long (f (ri_gL (ri_cv ρ sa ad a)) (ri_gL (ri_cv ρ sa ad b))) := by
  unfold ri_binL
  split
  · rw [ri_cl_eq]; rfl
  · exact h
theorem ri_binC_cv {t a b : Jvm.Term} (h : ri_cv ρ sa ad t = .int (lg_cmp (ri_gL (ri_cv ρ sa ad a)) (ri_gL (ri_cv ρ sa ad b)))) : ri_cv ρ sa ad (ri_binC t a b) = .int (lg_cmp (ri_gL (ri_cv ρ sa ad a)) (ri_gL (ri_cv ρ sa ad b))) := by
  unfold ri_binC
  split
  · rw [ri_ci_eq]; rfl
  · exact h
theorem ri_un_cv {f : Int32 → Int32} {t a : Jvm.Term} (h : ri_cv ρ sa ad t = .int (f (ri_gI (ri_cv ρ sa ad a)))) : ri_cv ρ sa ad (ri_un f t a) = .int (f (ri_gI (ri_cv ρ sa ad a))) := by
  unfold ri_un
  split
  · rw [ri_ci_eq]; rfl
  · exact h
theorem ri_unIL_cv {f : Int32 → Int64} {t a : Jvm.Term} (h : ri_cv ρ sa ad t = .long (f (ri_gI (ri_cv ρ sa ad a)))) : ri_cv ρ sa ad (ri_unIL f t a) = .long (f (ri_gI (ri_cv ρ sa ad a))) := by
  unfold ri_unIL
  split
  · rw [ri_cl_eq]; rfl
  · exact h
theorem ri_unLI_cv {f : Int64 → Int32} {t a : Jvm.Term} (h : ri_cv ρ sa ad t = .int (f (ri_gL (ri_cv ρ sa ad a)))) : ri_cv ρ sa ad (ri_unLI f t a) = .int (f (ri_gL (ri_cv ρ sa ad a))) := by
  unfold ri_unLI
  split
  · rw [ri_ci_eq]; rfl
  · exact h
end RIC
/-- the locals: a place, its value -/
def ri_ld (lv : List (Nat × Jvm.Term)) (i : Nat) : Option Jvm.Term := (lv.find? (fun q => q.1 == i)).map (fun q => q.2)
theorem ri_ld_mem {lv : List (Nat × Jvm.Term)} {i : Nat} {t : Jvm.Term} (h : ri_ld lv i = some t) : (i, t) ∈ lv := by
  unfold ri_ld at h
  obtain ⟨q, hq, rfl⟩ := Option.map_eq_some_iff.mp h
  have h1 := List.mem_of_find?_eq_some hq
  have h2 := List.find?_some hq
  have h3 : q.1 = i := by simpa using h2
  rw [← h3]
  exact h1
def ri_sto (lv : List (Nat × Jvm.Term)) (i : Nat) (t : Jvm.Term) : List (Nat × Jvm.Term) := (i, t) :: lv.filter (fun q => !(q.1 == i) && !(q.1 + 1 == i && ri_wide q.2))
def ri_sto2 (lv : List (Nat × Jvm.Term)) (i : Nat) (t : Jvm.Term) : List (Nat × Jvm.Term) := (i, t) :: lv.filter (fun q => !(q.1 == i) && (!(q.1 == i + 1) && !(q.1 + 1 == i && ri_wide q.2)))
def ri_lc (ρ : Nat → Int32) (sa : String → Nat → Nat) (ad : Nat → Nat) (lv : List (Nat × Jvm.Term)) : List (Nat × Value) := lv.map (fun q => (q.1, ri_cv ρ sa ad q.2))
section RID
variable {ρ : Nat → Int32} {sa : String → Nat → Nat} {ad : Nat → Nat} {lv : List (Nat × Jvm.Term)} {ls : Array Slot} {nL : Nat}
theorem ri_has_sub {l l' : List (Nat × Value)} (h : lv_has ls nL l) (hs : ∀ q ∈ l', q ∈ l) : lv_has ls nL l' := ⟨h.1, h.2.1, fun q hq => h.2.2 q (hs q hq)⟩
theorem ri_sto_has {i : Nat} {t : Jvm.Term} (h : lv_has ls nL ((i, ri_cv ρ sa ad t) :: (ri_lc ρ sa ad lv).filter (fun q => !(q.1 == i) && !(q.1 + 1 == i && q.2.category == 2)))) : lv_has ls nL (ri_lc ρ sa ad (ri_sto lv i t)) := by
  refine ri_has_sub h fun q hq => ?_
  obtain ⟨z, hz, rfl⟩ := List.mem_map.mp hq
  rcases List.mem_cons.mp hz with rfl | hz
  · exact List.mem_cons_self
  · obtain ⟨h1, h2⟩ := List.mem_filter.mp hz
    refine List.mem_cons_of_mem _ (List.mem_filter.mpr ⟨List.mem_map.mpr ⟨z, h1, rfl⟩, ?_⟩)
    have e : ((ri_cv ρ sa ad z.2).category == 2) = ri_wide z.2 := by
      rw [Bool.eq_iff_iff, beq_iff_eq]; exact ri_cat2
    show (!(z.1 == i) && !(z.1 + 1 == i && (ri_cv ρ sa ad z.2).category == 2)) = true
    rw [e]; exact h2
theorem ri_sto2_has {i : Nat} {t : Jvm.Term} (h : lv_has ls nL ((i, ri_cv ρ sa ad t) :: (ri_lc ρ sa ad lv).filter (fun q => !(q.1 == i) && (!(q.1 == i + 1) && !(q.1 + 1 == i && q.2.category == 2))))) : lv_has ls nL (ri_lc ρ sa ad (ri_sto2 lv i t)) := by
  refine ri_has_sub h fun q hq => ?_
  obtain ⟨z, hz, rfl⟩ := List.mem_map.mp hq
  rcases List.mem_cons.mp hz with rfl | hz
  · exact List.mem_cons_self
  · obtain ⟨h1, h2⟩ := List.mem_filter.mp hz
    refine List.mem_cons_of_mem _ (List.mem_filter.mpr ⟨List.mem_map.mpr ⟨z, h1, rfl⟩, ?_⟩)
    have e : ((ri_cv ρ sa ad z.2).category == 2) = ri_wide z.2 := by
      rw [Bool.eq_iff_iff, beq_iff_eq]; exact ri_cat2
    show (!(z.1 == i) && (!(z.1 == i + 1) && !(z.1 + 1 == i && (ri_cv ρ sa ad z.2).category == 2))) = true
    rw [e]; exact h2
theorem ri_ld_at {i : Nat} {t : Jvm.Term} (h : lv_has ls nL (ri_lc ρ sa ad lv)) (hl : ri_ld lv i = some t) : ls[i]? = some (.val (ri_cv ρ sa ad t)) :=
  h.2.2 (i, ri_cv ρ sa ad t) (List.mem_map.mpr ⟨(i, t), ri_ld_mem hl, rfl⟩)
end RID
end RIA
end
section
/-! RI: the instructions that touch neither heap nor course -/
section RIP
def ri_pl (len kk : Nat) (lv : List (Nat × Jvm.Term)) (k : Nat) (st : List Jvm.Term) : Option (Nat × List (Nat × Jvm.Term) × List Jvm.Term) := match ri_ld lv k with
  | some t => if ri_k t = kk then some (len, lv, t :: st) else none
  | none => none
def ri_pa (len : Nat) (lv : List (Nat × Jvm.Term)) (k : Nat) (st : List Jvm.Term) : Option (Nat × List (Nat × Jvm.Term) × List Jvm.Term) := match ri_ld lv k with
  | some t => if ri_k t = 2 ∨ ri_k t = 3 then some (len, lv, t :: st) else none
  | none => none
def ri_ps (len kk nL : Nat) (lv : List (Nat × Jvm.Term)) (k : Nat) (st : List Jvm.Term) : Option (Nat × List (Nat × Jvm.Term) × List Jvm.Term) := match st with
  | t :: r => if ri_k t = kk ∧ k < nL then some (len, ri_sto lv k t, r) else none
  | _ => none
def ri_psa (len nL : Nat) (lv : List (Nat × Jvm.Term)) (k : Nat) (st : List Jvm.Term) : Option (Nat × List (Nat × Jvm.Term) × List Jvm.Term) := match st with
  | t :: r => if (ri_k t = 2 ∨ ri_k t = 3) ∧ k < nL then some (len, ri_sto lv k t, r) else none
  | _ => none
def ri_ps2 (len nL : Nat) (lv : List (Nat × Jvm.Term)) (k : Nat) (st : List Jvm.Term) : Option (Nat × List (Nat × Jvm.Term) × List Jvm.Term) := match st with
  | t :: r => if ri_k t = 1 ∧ k + 1 < nL then some (len, ri_sto2 lv k t, r) else none
  | _ => none
def ri_s1 (kk : Nat) (g : Jvm.Term → Jvm.Term) (lv : List (Nat × Jvm.Term)) (st : List Jvm.Term) : Option (Nat × List (Nat × Jvm.Term) × List Jvm.Term) := match st with
  | a :: r => if ri_k a = kk then some (1, lv, g a :: r) else none
  | _ => none
def ri_s2 (kk : Nat) (g : Jvm.Term → Jvm.Term → Jvm.Term) (lv : List (Nat × Jvm.Term)) (st : List Jvm.Term) : Option (Nat × List (Nat × Jvm.Term) × List Jvm.Term) := match st with
  | b :: a :: r => if ri_k a = kk ∧ ri_k b = kk then some (1, lv, g a b :: r) else none
  | _ => none
/-- a division: by a constant that isn't 0 -/
def ri_nz : Jvm.Term → Bool
  | .int y => !(y == 0)
  | _ => false
def ri_sd (g : Jvm.Term → Jvm.Term → Jvm.Term) (lv : List (Nat × Jvm.Term)) (st : List Jvm.Term) : Option (Nat × List (Nat × Jvm.Term) × List Jvm.Term) := match st with
  | b :: a :: r => if ri_k a = 0 ∧ ri_nz b = true then some (1, lv, g a b :: r) else none
  | _ => none
def ri_dup (lv : List (Nat × Jvm.Term)) (st : List Jvm.Term) : Option (Nat × List (Nat × Jvm.Term) × List Jvm.Term) := match st with
  | a :: r => if ri_wide a = false then some (1, lv, a :: a :: r) else none
  | _ => none
def ri_dup_x1 (lv : List (Nat × Jvm.Term)) (st : List Jvm.Term) : Option (Nat × List (Nat × Jvm.Term) × List Jvm.Term) := match st with
  | a :: b :: r => if ri_wide a = false ∧ ri_wide b = false then some (1, lv, a :: b :: a :: r) else none
  | _ => none
def ri_dup2 (lv : List (Nat × Jvm.Term)) (st : List Jvm.Term) : Option (Nat × List (Nat × Jvm.Term) × List Jvm.Term) := match st with
  | a :: b :: r => if ri_wide a = false ∧ ri_wide b = false then some (1, lv, a :: b :: a :: b :: r) else none
  | _ => none
def ri_pop (lv : List (Nat × Jvm.Term)) (st : List Jvm.Term) : Option (Nat × List (Nat × Jvm.Term) × List Jvm.Term) := match st with
  | a :: r => if ri_wide a = false then some (1, lv, r) else none
  | _ => none
def ri_inc (nL : Nat) (lv : List (Nat × Jvm.Term)) (k : Nat) (n : Int) (st : List Jvm.Term) : Option (Nat × List (Nat × Jvm.Term) × List Jvm.Term) := match ri_ld lv k with
  | some t => if ri_k t = 0 ∧ k < nL then some (3, ri_sto lv k (ri_bin (fun x y => x + y) (.add t (.int (Int32.ofInt n))) t (.int (Int32.ofInt n))), st) else none
  | none => none
def ri_pure (nL : Nat) (i : Instr) (lv : List (Nat × Jvm.Term)) (st : List Jvm.Term) : Option (Nat × List (Nat × Jvm.Term) × List Jvm.Term) := match i with
  | .iconst n => some (1, lv, ri_ci (Int32.ofInt n) :: st)
  | .bipush n => some (2, lv, ri_ci (Int8.ofInt n).toInt32 :: st)
  | .sipush n => some (3, lv, ri_ci (Int16.ofInt n).toInt32 :: st)
  | .lconst n => some (1, lv, ri_cl (Int64.ofNat n.val) :: st)
  | .aconst_null => some (1, lv, .null :: st)
  | .iload k => ri_pl 2 0 lv k st
  | .iload_n k => ri_pl 1 0 lv k.val st
  | .lload k => ri_pl 2 1 lv k st
  | .lload_n k => ri_pl 1 1 lv k.val st
  | .aload k => ri_pa 2 lv k st
  | .aload_n k => ri_pa 1 lv k.val st
  | .istore k => ri_ps 2 0 nL lv k st
  | .istore_n k => ri_ps 1 0 nL lv k.val st
  | .lstore k => ri_ps2 2 nL lv k st
  | .lstore_n k => ri_ps2 1 nL lv k.val st
  | .astore k => ri_psa 2 nL lv k st
  | .astore_n k => ri_psa 1 nL lv k.val st
  | .iinc k n => ri_inc nL lv k n st
  | .iadd => ri_s2 0 (fun a b => ri_bin (fun x y => x + y) (.add a b) a b) lv st
  | .isub => ri_s2 0 (fun a b => ri_bin (fun x y => x - y) (.sub a b) a b) lv st
  | .imul => ri_s2 0 (fun a b => ri_bin (fun x y => x * y) (.mul a b) a b) lv st
  | .idiv => ri_sd (fun a b => ri_bin (fun x y => x / y) (.div a b) a b) lv st
  | .irem => ri_sd (fun a b => ri_bin (fun x y => x - x / y * y) (.rem a b) a b) lv st
  | .iand => ri_s2 0 (fun a b => ri_bin (fun x y => x &&& y) (.op2 .iand a b) a b) lv st
  | .ior => ri_s2 0 (fun a b => ri_bin (fun x y => x ||| y) (.op2 .ior a b) a b) lv st
  | .ixor => ri_s2 0 (fun a b => ri_bin (fun x y => x ^^^ y) (.op2 .ixor a b) a b) lv st
  | .ishl => ri_s2 0 (fun a b => ri_bin (fun x y => x <<< (y &&& 31)) (.op2 .ishl a b) a b) lv st
  | .ishr => ri_s2 0 (fun a b => ri_bin (fun x y => x >>> (y &&& 31)) (.op2 .ishr a b) a b) lv st
  | .iushr => ri_s2 0 (fun a b => ri_bin (fun x y => (x.toUInt32 >>> (y.toUInt32 &&& Int32.toUInt32 31)).toInt32) (.op2 .iushr a b) a b) lv st
  | .ineg => ri_s1 0 (fun a => ri_un (fun x => -x) (.op1 .ineg a) a) lv st
  | .i2l => ri_s1 0 (fun a => ri_unIL (fun x => x.toInt64) (.op1 .i2l a) a) lv st
  | .l2i => ri_s1 1 (fun a => ri_unLI (fun x => x.toInt32) (.op1 .l2i a) a) lv st
  | .ladd => ri_s2 1 (fun a b => ri_binL (fun x y => x + y) (.op2 .ladd a b) a b) lv st
  | .lsub => ri_s2 1 (fun a b => ri_binL (fun x y => x - y) (.op2 .lsub a b) a b) lv st
  | .lcmp => ri_s2 1 (fun a b => ri_binC (.op2 .lcmp a b) a b) lv st
  | .dup => ri_dup lv st
  | .dup_x1 => ri_dup_x1 lv st
  | .dup2 => ri_dup2 lv st
  | .pop => ri_pop lv st
  | _ => none
section RIPS
variable {ρ : Nat → Int32} {sa : String → Nat → Nat} {ad : Nat → Nat} {lv lv' : List (Nat × Jvm.Term)} {st st' : List Jvm.Term} {len len' kk nL k : Nat}
theorem ri_pl_s (h : ri_pl len kk lv k st = some (len', lv', st')) : ∃ t, ri_ld lv k = some t ∧ ri_k t = kk ∧ len' = len ∧ lv' = lv ∧ st' = t :: st := by
  unfold ri_pl at h
  split at h
  · next t ht =>
    split at h
    · next hk => cases h; exact ⟨t, ht, hk, rfl, rfl, rfl⟩
    · cases h
  · cases h
theorem ri_pa_s (h : ri_pa len lv k st = some (len', lv', st')) : ∃ t, ri_ld lv k = some t ∧ (ri_k t = 2 ∨ ri_k t = 3) ∧ len' = len ∧ lv' = lv ∧ st' = t :: st := by
  unfold ri_pa at h
  split at h
  · next t ht =>
    split at h
    · next hk => cases h; exact ⟨t, ht, hk, rfl, rfl, rfl⟩
    · cases h
  · cases h
theorem ri_ps_s (h : ri_ps len kk nL lv k st = some (len', lv', st')) : ∃ t, st = t :: st' ∧ ri_k t = kk ∧ k < nL ∧ len' = len ∧ lv' = ri_sto lv k t := by
  unfold ri_ps at h
  split at h
  · next t r =>
    split at h
    · next hk => cases h; exact ⟨t, rfl, hk.1, hk.2, rfl, rfl⟩
    · cases h
  · cases h
theorem ri_psa_s (h : ri_psa len nL lv k st = some (len', lv', st')) : ∃ t, st = t :: st' ∧ (ri_k t = 2 ∨ ri_k t = 3) ∧ k < nL ∧ len' = len ∧ lv' = ri_sto lv k t := by
  unfold ri_psa at h
  split at h
  · next t r =>
    split at h
    · next hk => cases h; exact ⟨t, rfl, hk.1, hk.2, rfl, rfl⟩
    · cases h
  · cases h
theorem ri_ps2_s (h : ri_ps2 len nL lv k st = some (len', lv', st')) : ∃ t, st = t :: st' ∧ ri_k t = 1 ∧ k + 1 < nL ∧ len' = len ∧ lv' = ri_sto2 lv k t := by
  unfold ri_ps2 at h
  split at h
  · next t r =>
    split at h
    · next hk => cases h; exact ⟨t, rfl, hk.1, hk.2, rfl, rfl⟩
    · cases h
  · cases h
theorem ri_s1_s {g : Jvm.Term → Jvm.Term} (h : ri_s1 kk g lv st = some (len', lv', st')) : ∃ a r, st = a :: r ∧ ri_k a = kk ∧ len' = 1 ∧ lv' = lv ∧ st' = g a :: r := by
  unfold ri_s1 at h
  split at h
  · next a r =>
    split at h
    · next hk => cases h; exact ⟨a, r, rfl, hk, rfl, rfl, rfl⟩
    · cases h
  · cases h
theorem ri_s2_s {g : Jvm.Term → Jvm.Term → Jvm.Term} (h : ri_s2 kk g lv st = some (len', lv', st')) : ∃ a b r, st = b :: a :: r ∧ ri_k a = kk ∧ ri_k b = kk ∧ len' = 1 ∧ lv' = lv ∧ st' = g a b :: r := by
  unfold ri_s2 at h
  split at h
  · next b a r =>
    split at h
    · next hk => cases h; exact ⟨a, b, r, rfl, hk.1, hk.2, rfl, rfl, rfl⟩
    · cases h
  · cases h
theorem ri_nz_s {b : Jvm.Term} (h : ri_nz b = true) : ∃ y : Int32, b = .int y ∧ ¬ y = 0 := by
  unfold ri_nz at h
  split at h
  · next y => exact ⟨y, rfl, fun e => by rw [e] at h; exact absurd h (by decide)⟩
  · cases h
theorem ri_sd_s {g : Jvm.Term → Jvm.Term → Jvm.Term} (h : ri_sd g lv st = some (len', lv', st')) : ∃ a b r, st = b :: a :: r ∧ ri_k a = 0 ∧ ri_nz b = true ∧ len' = 1 ∧ lv' = lv ∧ st' = g a b :: r := by
  unfold ri_sd at h
  split at h
  · next b a r =>
    split at h
    · next hk => cases h; exact ⟨a, b, r, rfl, hk.1, hk.2, rfl, rfl, rfl⟩
    · cases h
  · cases h
theorem ri_dup_s (h : ri_dup lv st = some (len', lv', st')) : ∃ a r, st = a :: r ∧ ri_wide a = false ∧ len' = 1 ∧ lv' = lv ∧ st' = a :: a :: r := by
  unfold ri_dup at h
  split at h
  · next a r =>
    split at h
    · next hk => cases h; exact ⟨a, r, rfl, hk, rfl, rfl, rfl⟩
    · cases h
  · cases h
theorem ri_pop_s (h : ri_pop lv st = some (len', lv', st')) : ∃ a, st = a :: st' ∧ ri_wide a = false ∧ len' = 1 ∧ lv' = lv := by
  unfold ri_pop at h
  split at h
  · next a r =>
    split at h
    · next hk => cases h; exact ⟨a, rfl, hk, rfl, rfl⟩
    · cases h
  · cases h
theorem ri_dup_x1_s (h : ri_dup_x1 lv st = some (len', lv', st')) : ∃ a b r, st = a :: b :: r ∧ ri_wide a = false ∧ ri_wide b = false ∧ len' = 1 ∧ lv' = lv ∧ st' = a :: b :: a :: r := by
  unfold ri_dup_x1 at h
  split at h
  · next a b r =>
    split at h
    · next hk => cases h; exact ⟨a, b, r, rfl, hk.1, hk.2, rfl, rfl, rfl⟩
    · cases h
  · cases h
theorem ri_dup2_s (h : ri_dup2 lv st = some (len', lv', st')) : ∃ a b r, st = a :: b :: r ∧ ri_wide a = false ∧ ri_wide b = false ∧ len' = 1 ∧ lv' = lv ∧ st' = a :: b :: a :: b :: r := by
  unfold ri_dup2 at h
  split at h
  · next a b r =>
    split at h
    · next hk => cases h; exact ⟨a, b, r, rfl, hk.1, hk.2, rfl, rfl, rfl⟩
    · cases h
  · cases h
theorem ri_inc_s {n : Int} (h : ri_inc nL lv k n st = some (len', lv', st')) : ∃ t, ri_ld lv k = some t ∧ ri_k t = 0 ∧ k < nL ∧ len' = 3 ∧ lv' = ri_sto lv k (ri_bin (fun x y => x + y) (.add t (.int (Int32.ofInt n))) t (.int (Int32.ofInt n))) ∧ st' = st := by
  unfold ri_inc at h
  split at h
  · next t ht =>
    split at h
    · next hk => cases h; exact ⟨t, ht, hk.1, hk.2, rfl, rfl, rfl⟩
    · cases h
  · cases h
end RIPS
section RIPW
variable {p : Program} {l : Launch} {e : Env} {R : Room} {s : State} {m : MethodId} {args : Array Value} {below : List Frame} {meth : Method} {c : Code} {H : Heap} {locs : List Loc} {cells slots : Nat} {Q : State → Prop}
variable {ρ : Nat → Int32} {sa : String → Nat → Nat} {ad : Nat → Nat} {lv lv' : List (Nat × Jvm.Term)} {st st' : List Jvm.Term} {len nL pc : Nat} {ls : Array Slot} {cc : ByteArray}
set_option maxHeartbeats 4000000 in
theorem ri_pure_W {i : Instr} (hx : p.tables.exec = Jvm.exec) (hb : c.code = cc) (h : ri_pure nL i lv st = some (len, lv', st')) (hd : decode cc pc = .ok (i, len)) (hl : lv_has ls nL (ri_lc ρ sa ad lv))
    (kk : ∀ ls' : Array Slot, lv_has ls' nL (ri_lc ρ sa ad lv') → W p l e R s m args below meth c H locs cells slots Q (F0 m (pc + len) ls' (st'.map (ri_cv ρ sa ad)))) :
    W p l e R s m args below meth c H locs cells slots Q (F0 m pc ls (st.map (ri_cv ρ sa ad))) := by
  cases i with
  | iconst n => cases h; have k1 := kk ls hl; rw [List.map_cons, ri_ci_eq] at k1; exact lv_iconst hx hb hd rfl k1
  | bipush n => cases h; have k1 := kk ls hl; rw [List.map_cons, ri_ci_eq] at k1; exact lv_bipush hx hb hd rfl k1
  | sipush n => cases h; have k1 := kk ls hl; rw [List.map_cons, ri_ci_eq] at k1; exact lv_sipush hx hb hd rfl k1
  | lconst n => cases h; have k1 := kk ls hl; rw [List.map_cons, ri_cl_eq] at k1; exact lv_lconst hx hb hd rfl k1
  | aconst_null => cases h; exact lv_null hx hb hd (kk ls hl)
  | iload k => obtain ⟨t, h1, h2, rfl, rfl, rfl⟩ := ri_pl_s h; have h3 := ri_ld_at hl h1; have k1 := kk ls hl; rw [List.map_cons, ri_I h2] at k1; rw [ri_I h2] at h3; exact lv_iload hx hb hd h3 k1
  | iload_n k => obtain ⟨t, h1, h2, rfl, rfl, rfl⟩ := ri_pl_s h; have h3 := ri_ld_at hl h1; have k1 := kk ls hl; rw [List.map_cons, ri_I h2] at k1; rw [ri_I h2] at h3; exact lv_iload_n hx hb hd rfl h3 k1
  | lload k => obtain ⟨t, h1, h2, rfl, rfl, rfl⟩ := ri_pl_s h; have h3 := ri_ld_at hl h1; have k1 := kk ls hl; rw [List.map_cons, ri_L h2] at k1; rw [ri_L h2] at h3; exact lv_lload hx hb hd h3 k1
  | lload_n k => obtain ⟨t, h1, h2, rfl, rfl, rfl⟩ := ri_pl_s h; have h3 := ri_ld_at hl h1; have k1 := kk ls hl; rw [List.map_cons, ri_L h2] at k1; rw [ri_L h2] at h3; exact lv_lload_n hx hb hd rfl h3 k1
  | aload k =>
    obtain ⟨t, h1, h2, rfl, rfl, rfl⟩ := ri_pa_s h
    have h3 := ri_ld_at hl h1
    have k1 := kk ls hl
    rw [List.map_cons] at k1
    rcases h2 with h2 | h2
    · obtain ⟨a, ha⟩ := ri_R (ρ := ρ) (sa := sa) (ad := ad) h2
      rw [ha] at h3 k1
      exact lv_aload hx hb hd h3 k1
    · rw [ri_N h2] at h3 k1
      exact lv_aloadN hx hb hd h3 k1
  | aload_n k =>
    obtain ⟨t, h1, h2, rfl, rfl, rfl⟩ := ri_pa_s h
    have h3 := ri_ld_at hl h1
    have k1 := kk ls hl
    rw [List.map_cons] at k1
    rcases h2 with h2 | h2
    · obtain ⟨a, ha⟩ := ri_R (ρ := ρ) (sa := sa) (ad := ad) h2
      rw [ha] at h3 k1
      exact lv_aload_n hx hb hd rfl h3 k1
    · rw [ri_N h2] at h3 k1
      exact lv_aload_nN hx hb hd rfl h3 k1
  | istore k => obtain ⟨t, rfl, h2, h3, rfl, rfl⟩ := ri_ps_s h; rw [List.map_cons, ri_I h2]; exact lv_istore hx hb hd hl h3 rfl fun ls' hl' => kk ls' (ri_sto_has (by rw [ri_I h2]; exact hl'))
  | istore_n k => obtain ⟨t, rfl, h2, h3, rfl, rfl⟩ := ri_ps_s h; rw [List.map_cons, ri_I h2]; exact lv_istore_n hx hb hd rfl hl h3 rfl fun ls' hl' => kk ls' (ri_sto_has (by rw [ri_I h2]; exact hl'))
  | lstore k => obtain ⟨t, rfl, h2, h3, rfl, rfl⟩ := ri_ps2_s h; rw [List.map_cons, ri_L h2]; exact lv_lstore hx hb hd hl h3 rfl fun ls' hl' => kk ls' (ri_sto2_has (by rw [ri_L h2]; exact hl'))
  | lstore_n k => obtain ⟨t, rfl, h2, h3, rfl, rfl⟩ := ri_ps2_s h; rw [List.map_cons, ri_L h2]; exact lv_lstore_n hx hb hd rfl hl h3 rfl fun ls' hl' => kk ls' (ri_sto2_has (by rw [ri_L h2]; exact hl'))
  | astore k =>
    obtain ⟨t, rfl, h2, h3, rfl, rfl⟩ := ri_psa_s h
    rw [List.map_cons]
    rcases h2 with h2 | h2
    · obtain ⟨a, ha⟩ := ri_R (ρ := ρ) (sa := sa) (ad := ad) h2
      rw [ha]
      exact lv_astore hx hb hd hl h3 rfl fun ls' hl' => kk ls' (ri_sto_has (by rw [ha]; exact hl'))
    · rw [ri_N h2]
      exact lv_astoreN hx hb hd hl h3 rfl fun ls' hl' => kk ls' (ri_sto_has (by rw [ri_N h2]; exact hl'))
  | astore_n k =>
    obtain ⟨t, rfl, h2, h3, rfl, rfl⟩ := ri_psa_s h
    rw [List.map_cons]
    rcases h2 with h2 | h2
    · obtain ⟨a, ha⟩ := ri_R (ρ := ρ) (sa := sa) (ad := ad) h2
      rw [ha]
      exact lv_astore_n hx hb hd rfl hl h3 rfl fun ls' hl' => kk ls' (ri_sto_has (by rw [ha]; exact hl'))
    · rw [ri_N h2]
      exact lv_astore_nN hx hb hd rfl hl h3 rfl fun ls' hl' => kk ls' (ri_sto_has (by rw [ri_N h2]; exact hl'))
  | iinc k n =>
    obtain ⟨t, h1, h2, h3, rfl, rfl, rfl⟩ := ri_inc_s h
    have hm : (k, ri_cv ρ sa ad t) ∈ ri_lc ρ sa ad lv := List.mem_map.mpr ⟨(k, t), ri_ld_mem h1, rfl⟩
    obtain ⟨j, hj⟩ := List.getElem?_of_mem hm
    rw [ri_I h2] at hj
    have e := ri_bin_cv (ρ := ρ) (sa := sa) (ad := ad) (f := fun x y => x + y) (t := .add t (.int (Int32.ofInt n))) (a := t) (b := .int (Int32.ofInt n)) rfl
    exact lv_iinc hx hb hd hl hj rfl h3 rfl fun ls' hl' => kk ls' (ri_sto_has (by rw [e]; exact hl'))
  | iadd => obtain ⟨a, b, r, rfl, ha, hb2, rfl, rfl, rfl⟩ := ri_s2_s h; have k1 := kk ls hl; rw [List.map_cons, ri_bin_cv rfl] at k1; rw [List.map_cons, List.map_cons, ri_I ha, ri_I hb2]; exact lv_iadd hx hb hd k1
  | isub => obtain ⟨a, b, r, rfl, ha, hb2, rfl, rfl, rfl⟩ := ri_s2_s h; have k1 := kk ls hl; rw [List.map_cons, ri_bin_cv rfl] at k1; rw [List.map_cons, List.map_cons, ri_I ha, ri_I hb2]; exact lv_isub hx hb hd k1
  | imul => obtain ⟨a, b, r, rfl, ha, hb2, rfl, rfl, rfl⟩ := ri_s2_s h; have k1 := kk ls hl; rw [List.map_cons, ri_bin_cv rfl] at k1; rw [List.map_cons, List.map_cons, ri_I ha, ri_I hb2]; exact lv_imul hx hb hd k1
  | idiv => obtain ⟨a, b, r, rfl, ha, hz, rfl, rfl, rfl⟩ := ri_sd_s h; obtain ⟨y, rfl, hy⟩ := ri_nz_s hz; have k1 := kk ls hl; rw [List.map_cons, ri_bin_cv rfl] at k1; rw [List.map_cons, List.map_cons, ri_I ha]; exact lv_idiv hx hb hd hy k1
  | irem => obtain ⟨a, b, r, rfl, ha, hz, rfl, rfl, rfl⟩ := ri_sd_s h; obtain ⟨y, rfl, hy⟩ := ri_nz_s hz; have k1 := kk ls hl; rw [List.map_cons, ri_bin_cv rfl] at k1; rw [List.map_cons, List.map_cons, ri_I ha]; exact lv_irem hx hb hd hy k1
  | iand => obtain ⟨a, b, r, rfl, ha, hb2, rfl, rfl, rfl⟩ := ri_s2_s h; have k1 := kk ls hl; rw [List.map_cons, ri_bin_cv rfl] at k1; rw [List.map_cons, List.map_cons, ri_I ha, ri_I hb2]; exact lv_iand hx hb hd k1
  | ior => obtain ⟨a, b, r, rfl, ha, hb2, rfl, rfl, rfl⟩ := ri_s2_s h; have k1 := kk ls hl; rw [List.map_cons, ri_bin_cv rfl] at k1; rw [List.map_cons, List.map_cons, ri_I ha, ri_I hb2]; exact lv_ior hx hb hd k1
  | ixor => obtain ⟨a, b, r, rfl, ha, hb2, rfl, rfl, rfl⟩ := ri_s2_s h; have k1 := kk ls hl; rw [List.map_cons, ri_bin_cv rfl] at k1; rw [List.map_cons, List.map_cons, ri_I ha, ri_I hb2]; exact lv_ixor hx hb hd k1
  | ishl => obtain ⟨a, b, r, rfl, ha, hb2, rfl, rfl, rfl⟩ := ri_s2_s h; have k1 := kk ls hl; rw [List.map_cons, ri_bin_cv rfl] at k1; rw [List.map_cons, List.map_cons, ri_I ha, ri_I hb2]; exact lv_ishl hx hb hd k1
  | ishr => obtain ⟨a, b, r, rfl, ha, hb2, rfl, rfl, rfl⟩ := ri_s2_s h; have k1 := kk ls hl; rw [List.map_cons, ri_bin_cv rfl] at k1; rw [List.map_cons, List.map_cons, ri_I ha, ri_I hb2]; exact lv_ishr hx hb hd k1
  | iushr => obtain ⟨a, b, r, rfl, ha, hb2, rfl, rfl, rfl⟩ := ri_s2_s h; have k1 := kk ls hl; rw [List.map_cons, ri_bin_cv rfl] at k1; rw [List.map_cons, List.map_cons, ri_I ha, ri_I hb2]; exact lv_iushr hx hb hd rfl k1
  | ineg => obtain ⟨a, r, rfl, ha, rfl, rfl, rfl⟩ := ri_s1_s h; have k1 := kk ls hl; rw [List.map_cons, ri_un_cv rfl] at k1; rw [List.map_cons, ri_I ha]; exact lv_ineg hx hb hd k1
  | i2l => obtain ⟨a, r, rfl, ha, rfl, rfl, rfl⟩ := ri_s1_s h; have k1 := kk ls hl; rw [List.map_cons, ri_unIL_cv rfl] at k1; rw [List.map_cons, ri_I ha]; exact lv_i2l hx hb hd rfl k1
  | l2i => obtain ⟨a, r, rfl, ha, rfl, rfl, rfl⟩ := ri_s1_s h; have k1 := kk ls hl; rw [List.map_cons, ri_unLI_cv rfl] at k1; rw [List.map_cons, ri_L ha]; exact lv_l2i hx hb hd rfl k1
  | ladd => obtain ⟨a, b, r, rfl, ha, hb2, rfl, rfl, rfl⟩ := ri_s2_s h; have k1 := kk ls hl; rw [List.map_cons, ri_binL_cv rfl] at k1; rw [List.map_cons, List.map_cons, ri_L ha, ri_L hb2]; exact lv_ladd hx hb hd k1
  | lsub => obtain ⟨a, b, r, rfl, ha, hb2, rfl, rfl, rfl⟩ := ri_s2_s h; have k1 := kk ls hl; rw [List.map_cons, ri_binL_cv rfl] at k1; rw [List.map_cons, List.map_cons, ri_L ha, ri_L hb2]; exact lv_lsub hx hb hd k1
  | lcmp => obtain ⟨a, b, r, rfl, ha, hb2, rfl, rfl, rfl⟩ := ri_s2_s h; have k1 := kk ls hl; rw [List.map_cons, ri_binC_cv rfl] at k1; rw [List.map_cons, List.map_cons, ri_L ha, ri_L hb2]; exact W.lcmp hx hb hd k1
  | dup => obtain ⟨a, r, rfl, ha, rfl, rfl, rfl⟩ := ri_dup_s h; exact lv_dup hx hb hd (ri_cat1 ha) (kk ls hl)
  | dup_x1 => obtain ⟨a, b, r, rfl, ha, hb2, rfl, rfl, rfl⟩ := ri_dup_x1_s h; exact lv_dup_x1 hx hb hd (ri_cat1 ha) (ri_cat1 hb2) (kk ls hl)
  | dup2 => obtain ⟨a, b, r, rfl, ha, hb2, rfl, rfl, rfl⟩ := ri_dup2_s h; exact lv_dup2_11 hx hb hd (ri_cat1 ha) (ri_cat1 hb2) (kk ls hl)
  | pop => obtain ⟨a, rfl, ha, rfl, rfl⟩ := ri_pop_s h; exact lv_pop hx hb hd (ri_cat1 ha) (kk ls hl)
  | _ => exact absurd h (by simp [ri_pure])
end RIPW
end RIP
end
section
/-! RI: the world over closed data: objects and arrays by numbers -/
section RIH
abbrev ri_Ce : Type := (Nat × List Jvm.Term) ⊕ (Nat × Nat × Jvm.Term × List (Nat × Jvm.Term))
abbrev ri_Me : Type := List ri_Ce
def ri_look (d : Jvm.Term) (ov : List (Nat × Jvm.Term)) (j : Nat) : Jvm.Term := match ov.find? (fun q => q.1 == j) with
  | some q => q.2
  | none => d
def ri_sameC (t d : Jvm.Term) : Bool := match t, d with
  | .int a, .int b => a == b
  | .long a, .long b => a == b
  | .null, .null => true
  | _, _ => false
def ri_put (d : Jvm.Term) (ov : List (Nat × Jvm.Term)) (j : Nat) (t : Jvm.Term) : List (Nat × Jvm.Term) :=
  if ri_sameC t d = true then ov.filter (fun q => !(q.1 == j)) else (j, t) :: ov.filter (fun q => !(q.1 == j))
def ri_isR : Option FieldType → Bool
  | some (.object _) => true
  | some (.array _) => true
  | _ => false
def ri_isJ : Option FieldType → Bool
  | some .long => true
  | _ => false
section RIH1
variable (ρ : Nat → Int32) (sa : String → Nat → Nat) (aty : List FieldType) (tyc : Nat → ClassId) (ad : Nat → Nat)
def ri_ce : ri_Ce → va_E
  | .inl (ci, fs) => .inr (ci, fs.map (ri_cv ρ sa ad))
  | .inr (ty, n, d, ov) => .inl (tyc ty, n, if ri_isR aty[ty]? = true then .inr (.inr (.inr (.inr (fun j => ri_gR (ri_cv ρ sa ad (ri_look d ov j)))))) else if ri_isJ aty[ty]? = true then .inr (.inl (fun j => ri_gL (ri_cv ρ sa ad (ri_look d ov j)))) else .inl (fun j => ri_gI (ri_cv ρ sa ad (ri_look d ov j))))
def ri_w (mem : ri_Me) : va_W := mem.mapIdx (fun k e => (ad k, ri_ce ρ sa aty tyc ad e))
end RIH1
/-- the references of a value, of a cell, of a world lie below n -/
def ri_ok (n : Nat) : Jvm.Term → Prop
  | .index k => k < n
  | _ => True
def ri_okC (n : Nat) : ri_Ce → Prop
  | .inl (_, fs) => ∀ t ∈ fs, ri_ok n t
  | .inr (_, _, d, ov) => ri_ok n d ∧ ∀ q ∈ ov, ri_ok n q.2
def ri_okM (n : Nat) (mem : ri_Me) : Prop := ∀ e ∈ mem, ri_okC n e
def ri_ag (n : Nat) (ad ad' : Nat → Nat) : Prop := ∀ k, k < n → ad' k = ad k
section RIH2
variable {ρ : Nat → Int32} {sa : String → Nat → Nat} {aty : List FieldType} {tyc : Nat → ClassId} {ad ad' : Nat → Nat} {n n' : Nat} {mem : ri_Me}
theorem ri_ok_mono {t : Jvm.Term} (h : ri_ok n t) (hn : n ≤ n') : ri_ok n' t := by
  cases t <;> first | trivial | exact Nat.lt_of_lt_of_le h hn
theorem ri_okC_mono {e : ri_Ce} (h : ri_okC n e) (hn : n ≤ n') : ri_okC n' e := by
  match e, h with
  | .inl (_, fs), h => exact fun t ht => ri_ok_mono (h t ht) hn
  | .inr (_, _, d, ov), h => exact ⟨ri_ok_mono h.1 hn, fun q hq => ri_ok_mono (h.2 q hq) hn⟩
theorem ri_okM_mono (h : ri_okM n mem) (hn : n ≤ n') : ri_okM n' mem := fun e he => ri_okC_mono (h e he) hn
theorem ri_ag_rf : ri_ag n ad ad := fun _ _ => rfl
theorem ri_ag_tr {ad2 : Nat → Nat} (h1 : ri_ag n ad ad') (h2 : ri_ag n' ad' ad2) (hn : n ≤ n') : ri_ag n ad ad2 := fun k hk => (h2 k (Nat.lt_of_lt_of_le hk hn)).trans (h1 k hk)
theorem ri_ag_sub (h : ri_ag n' ad ad') (hn : n ≤ n') : ri_ag n ad ad' := fun k hk => h k (Nat.lt_of_lt_of_le hk hn)
theorem ri_cv_ag {t : Jvm.Term} (h : ri_ok n t) (ha : ri_ag n ad ad') : ri_cv ρ sa ad' t = ri_cv ρ sa ad t := by
  by_cases hi : ∃ k, t = .index k
  · obtain ⟨k, rfl⟩ := hi
    show Value.ref (ad' k) = .ref (ad k)
    rw [ha k h]
  · exact ri_num t fun k e => hi ⟨k, e⟩
theorem ri_map_ag {l : List Jvm.Term} (h : ∀ t ∈ l, ri_ok n t) (ha : ri_ag n ad ad') : l.map (ri_cv ρ sa ad') = l.map (ri_cv ρ sa ad) := List.map_congr_left fun t ht => ri_cv_ag (h t ht) ha
theorem ri_lc_ag {lv : List (Nat × Jvm.Term)} (h : ∀ q ∈ lv, ri_ok n q.2) (ha : ri_ag n ad ad') : ri_lc ρ sa ad' lv = ri_lc ρ sa ad lv := List.map_congr_left fun q hq => by rw [ri_cv_ag (h q hq) ha]
theorem ri_look_ok {d : Jvm.Term} {ov : List (Nat × Jvm.Term)} {j : Nat} (hd : ri_ok n d) (ho : ∀ q ∈ ov, ri_ok n q.2) : ri_ok n (ri_look d ov j) := by
  unfold ri_look
  split
  · next q hq => exact ho q (List.mem_of_find?_eq_some hq)
  · exact hd
theorem ri_ce_ag {e : ri_Ce} (h : ri_okC n e) (ha : ri_ag n ad ad') : ri_ce ρ sa aty tyc ad' e = ri_ce ρ sa aty tyc ad e := by
  match e, h with
  | .inl (ci, fs), h => show Sum.inr (ci, fs.map (ri_cv ρ sa ad')) = Sum.inr (ci, fs.map (ri_cv ρ sa ad)); rw [ri_map_ag h ha]
  | .inr (ty, n9, d, ov), h =>
    have e1 : (fun j => ri_gR (ri_cv ρ sa ad' (ri_look d ov j))) = (fun j => ri_gR (ri_cv ρ sa ad (ri_look d ov j))) := funext fun j => by rw [ri_cv_ag (ri_look_ok h.1 h.2) ha]
    have e2 : (fun j => ri_gI (ri_cv ρ sa ad' (ri_look d ov j))) = (fun j => ri_gI (ri_cv ρ sa ad (ri_look d ov j))) := funext fun j => by rw [ri_cv_ag (ri_look_ok h.1 h.2) ha]
    have e3 : (fun j => ri_gL (ri_cv ρ sa ad' (ri_look d ov j))) = (fun j => ri_gL (ri_cv ρ sa ad (ri_look d ov j))) := funext fun j => by rw [ri_cv_ag (ri_look_ok h.1 h.2) ha]
    simp only [ri_ce]
    rw [e1, e2, e3]
theorem ri_w_get {k : Nat} {e : ri_Ce} (h : mem[k]? = some e) : (ri_w ρ sa aty tyc ad mem)[k]? = some (ad k, ri_ce ρ sa aty tyc ad e) := by
  unfold ri_w
  rw [List.getElem?_mapIdx, h]
  rfl
theorem ri_w_set {k : Nat} {e : ri_Ce} : (ri_w ρ sa aty tyc ad mem).set k (ad k, ri_ce ρ sa aty tyc ad e) = ri_w ρ sa aty tyc ad (mem.set k e) := by
  apply List.ext_getElem?
  intro i
  unfold ri_w
  rw [List.getElem?_mapIdx, List.getElem?_set, List.getElem?_set]
  by_cases hi : k = i
  · subst hi
    by_cases hl : k < mem.length
    · simp [hl]
    · simp [hl]
  · simp [hi]
theorem ri_w_push {q : Nat} {e : ri_Ce} (h : ri_okM mem.length mem) : ri_w ρ sa aty tyc (fun k => if k = mem.length then q else ad k) (mem ++ [e]) = ri_w ρ sa aty tyc ad mem ++ [(q, ri_ce ρ sa aty tyc (fun k => if k = mem.length then q else ad k) e)] := by
  have ha : ri_ag mem.length ad (fun k => if k = mem.length then q else ad k) := fun k hk => if_neg (Nat.ne_of_lt hk)
  apply List.ext_getElem?
  intro i
  unfold ri_w
  by_cases hi : i < mem.length
  · rw [List.getElem?_mapIdx, List.getElem?_append_left hi, List.getElem?_append_left (by simpa using hi), List.getElem?_mapIdx]
    cases hm : mem[i]? with
    | none => rfl
    | some e9 =>
      have he := h e9 (List.mem_of_getElem? hm)
      show some ((fun k => if k = mem.length then q else ad k) i, ri_ce ρ sa aty tyc (fun k => if k = mem.length then q else ad k) e9) = some (ad i, ri_ce ρ sa aty tyc ad e9)
      rw [ri_ce_ag he ha, ha i hi]
  · rw [List.getElem?_mapIdx, List.getElem?_append_right (by omega), List.getElem?_append_right (by simpa using hi)]
    simp only [List.length_mapIdx]
    by_cases h0 : i = mem.length
    · subst h0
      simp
    · have : i - mem.length ≠ 0 := by omega
      obtain ⟨j, hj⟩ : ∃ j, i - mem.length = j + 1 := ⟨i - mem.length - 1, by omega⟩
      rw [hj]
      rfl
theorem ri_w_ag (h : ri_okM n mem) (hn : mem.length ≤ n) (ha : ri_ag n ad ad') : ri_w ρ sa aty tyc ad' mem = ri_w ρ sa aty tyc ad mem := by
  apply List.ext_getElem?
  intro i
  unfold ri_w
  rw [List.getElem?_mapIdx, List.getElem?_mapIdx]
  cases hm : mem[i]? with
  | none => rfl
  | some e9 =>
    have hi : i < mem.length := (List.getElem?_eq_some_iff.mp hm).1
    show some (ad' i, ri_ce ρ sa aty tyc ad' e9) = some (ad i, ri_ce ρ sa aty tyc ad e9)
    rw [ri_ce_ag (h e9 (List.mem_of_getElem? hm)) ha, ha i (Nat.lt_of_lt_of_le hi hn)]
theorem ri_find_filter {ov : List (Nat × Jvm.Term)} {j i : Nat} (h : i ≠ j) : (ov.filter (fun q => !(q.1 == j))).find? (fun q => q.1 == i) = ov.find? (fun q => q.1 == i) := by
  induction ov with
  | nil => rfl
  | cons a l ih =>
    by_cases ha : a.1 = j
    · have h1 : (!(a.1 == j)) = false := by simp [ha]
      have h2 : (a.1 == i) = false := by simp [ha, Ne.symm h]
      rw [List.filter_cons_of_neg (by simp [ha]), List.find?_cons_of_neg (by simp [h2]), ih]
    · rw [List.filter_cons_of_pos (by simp [ha])]
      by_cases h3 : a.1 = i
      · rw [List.find?_cons_of_pos (by simp [h3]), List.find?_cons_of_pos (by simp [h3])]
      · rw [List.find?_cons_of_neg (by simp [h3]), List.find?_cons_of_neg (by simp [h3]), ih]
theorem ri_find_none {ov : List (Nat × Jvm.Term)} {j : Nat} : (ov.filter (fun q => !(q.1 == j))).find? (fun q => q.1 == j) = none := by
  rw [List.find?_eq_none]
  intro q hq
  have h := (List.mem_filter.mp hq).2
  simp at h ⊢
  exact h
theorem ri_sameC_s {t d : Jvm.Term} (h : ri_sameC t d = true) : ri_cv ρ sa ad t = ri_cv ρ sa ad d := by
  unfold ri_sameC at h
  split at h
  · next a b => rw [beq_iff_eq.mp h]
  · next a b => rw [beq_iff_eq.mp h]
  · rfl
  · cases h
theorem ri_put_cv {d t : Jvm.Term} {ov : List (Nat × Jvm.Term)} {j i : Nat} : ri_cv ρ sa ad (ri_look d (ri_put d ov j t) i) = if i = j then ri_cv ρ sa ad t else ri_cv ρ sa ad (ri_look d ov i) := by
  unfold ri_put
  by_cases hij : i = j
  · subst hij
    rw [if_pos rfl]
    split
    · next hs => unfold ri_look; rw [ri_find_none]; exact (ri_sameC_s hs).symm
    · unfold ri_look; rw [List.find?_cons_of_pos (by simp)]
  · rw [if_neg hij]
    split
    · unfold ri_look; rw [ri_find_filter hij]
    · unfold ri_look; rw [List.find?_cons_of_neg (by simpa using Ne.symm hij), ri_find_filter hij]
theorem ri_put_ok {d t : Jvm.Term} {ov : List (Nat × Jvm.Term)} {j : Nat} (ht : ri_ok n t) (ho : ∀ q ∈ ov, ri_ok n q.2) : ∀ q ∈ ri_put d ov j t, ri_ok n q.2 := by
  unfold ri_put
  intro q hq
  split at hq
  · exact ho q (List.mem_filter.mp hq).1
  · rcases List.mem_cons.mp hq with rfl | hq
    · exact ht
    · exact ho q (List.mem_filter.mp hq).1
theorem ri_okM_set {k : Nat} {e : ri_Ce} (h : ri_okM n mem) (he : ri_okC n e) : ri_okM n (mem.set k e) := fun x hx => by
  rcases List.mem_or_eq_of_mem_set hx with h1 | h1
  · exact h x h1
  · rw [h1]; exact he
theorem ri_okM_push {e : ri_Ce} (h : ri_okM n mem) (he : ri_okC (n + 1) e) : ri_okM (n + 1) (mem ++ [e]) := fun x hx => by
  rcases List.mem_append.mp hx with h1 | h1
  · exact ri_okC_mono (h x h1) (Nat.le_succ n)
  · rw [List.mem_singleton.mp h1]; exact he
theorem ri_ok_set {fs : List Jvm.Term} {j : Nat} {t : Jvm.Term} (h : ∀ x ∈ fs, ri_ok n x) (ht : ri_ok n t) : ∀ x ∈ fs.set j t, ri_ok n x := fun x hx => by
  rcases List.mem_or_eq_of_mem_set hx with h1 | h1
  · exact h x h1
  · rw [h1]; exact ht
theorem ri_map_set {fs : List Jvm.Term} {j : Nat} {t : Jvm.Term} : (fs.map (ri_cv ρ sa ad)).set j (ri_cv ρ sa ad t) = (fs.set j t).map (ri_cv ρ sa ad) := by
  rw [List.map_set]
end RIH2
end RIH
end
section
/-! RI: tables of the program; the instructions that touch the heap, one way on -/
section RIT
/-- a method: its class, its name, code, locals, answer, decoded code (by place), the number of its class's table of links -/
abbrev ri_Mt : Type := String × MethodName × ByteArray × Nat × Option FieldType × List (Option (Instr × Nat)) × Nat
abbrev ri_own (M : ri_Mt) : String := M.1
abbrev ri_nm (M : ri_Mt) : MethodName := M.2.1
abbrev ri_by (M : ri_Mt) : ByteArray := M.2.2.1
abbrev ri_mx (M : ri_Mt) : Nat := M.2.2.2.1
abbrev ri_rt (M : ri_Mt) : Option FieldType := M.2.2.2.2.1
abbrev ri_co (M : ri_Mt) : List (Option (Instr × Nat)) := M.2.2.2.2.2.1
abbrev ri_pn (M : ri_Mt) : Nat := M.2.2.2.2.2.2
/-- a link: its sort, two numbers, a text: 0 a field of class a at place b; 1 the same of a nest mate (text: the host); 20 a method a of b arguments, of an object, 21 static, 22 a constructor; 30, 31, 32 the same of a nest mate; 4 a class a; 5 the class of an exception (text), b the place of its text; 6 (at 100000 more) an array over type a of the list; 7 Object(); 8 the int constant a - b; 14 the long; 9 a String; 10 max; 11 min; 12 arraycopy; 13 the constructor of an exception -/
abbrev ri_Lk : Type := Nat × Nat × Nat × String
/-- classes, array types, methods, links, field types -/
abbrev ri_Tb : Type := List vw_C × List FieldType × List ri_Mt × List (List (Nat × ri_Lk)) × List (List FieldType)
abbrev ri_cls (G : ri_Tb) : List vw_C := G.1
abbrev ri_aty (G : ri_Tb) : List FieldType := G.2.1
abbrev ri_mts (G : ri_Tb) : List ri_Mt := G.2.2.1
abbrev ri_cps (G : ri_Tb) : List (List (Nat × ri_Lk)) := G.2.2.2.1
abbrev ri_fts (G : ri_Tb) : List (List FieldType) := G.2.2.2.2
abbrev ri_Cd : Type := Nat × Jvm.Term × Jvm.Term × Bool
/-- a way out: what held on the way, the world, the answer or the exception -/
abbrev ri_Lf : Type := List ri_Cd × ri_Me × (Option Jvm.Term ⊕ String)
/-- an index that must be in range: what held, the index, the length -/
abbrev ri_Ob : Type := List ri_Cd × Jvm.Term × Nat
abbrev ri_Rs : Type := List ri_Lf × Nat × Nat × List ri_Ob
def ri_cp (G : ri_Tb) (M : ri_Mt) (idx : Nat) : Option ri_Lk := (((ri_cps G).getD (ri_pn M) []).find? (fun q => q.1 == idx)).map (fun q => q.2)
/-- a field or a component of the type may hold the value -/
def ri_fit (ty : FieldType) (t : Jvm.Term) : Bool := match ty with
  | .int => ri_k t == 0
  | .long => ri_k t == 1
  | .object _ => ri_k t == 2 || ri_k t == 3
  | .array _ => ri_k t == 2 || ri_k t == 3
  | .double => ri_k t == 4
  | .float => ri_k t == 5
  | .boolean => match t with
    | .int v => v == 0 || v == 1
    | _ => false
  | _ => false
theorem ri_fit_s {ρ : Nat → Int32} {sa : String → Nat → Nat} {ad : Nat → Nat} {ty : FieldType} {t : Jvm.Term} (h : ri_fit ty t = true) : narrow ty (ri_cv ρ sa ad t) = ri_cv ρ sa ad t ∧ fits ty (ri_cv ρ sa ad t) = true := by
  cases ty with
  | int => rw [ri_I (beq_iff_eq.mp h)]; exact ⟨rfl, rfl⟩
  | long => rw [ri_L (beq_iff_eq.mp h)]; exact ⟨rfl, rfl⟩
  | double => obtain ⟨b, hb⟩ := ri_Dd (ρ := ρ) (sa := sa) (ad := ad) (beq_iff_eq.mp h); rw [hb]; exact ⟨rfl, rfl⟩
  | float => obtain ⟨b, hb⟩ := ri_Ff (ρ := ρ) (sa := sa) (ad := ad) (beq_iff_eq.mp h); rw [hb]; exact ⟨rfl, rfl⟩
  | object n =>
    rcases (Bool.or_eq_true _ _).mp h with h | h
    · obtain ⟨a, ha⟩ := ri_R (ρ := ρ) (sa := sa) (ad := ad) (beq_iff_eq.mp h); rw [ha]; exact ⟨rfl, rfl⟩
    · rw [ri_N (beq_iff_eq.mp h)]; exact ⟨rfl, rfl⟩
  | array n =>
    rcases (Bool.or_eq_true _ _).mp h with h | h
    · obtain ⟨a, ha⟩ := ri_R (ρ := ρ) (sa := sa) (ad := ad) (beq_iff_eq.mp h); rw [ha]; exact ⟨rfl, rfl⟩
    · rw [ri_N (beq_iff_eq.mp h)]; exact ⟨rfl, rfl⟩
  | boolean =>
    simp only [ri_fit] at h
    split at h
    · next v =>
      rcases (Bool.or_eq_true _ _).mp h with h | h
      · rw [beq_iff_eq.mp h]; exact ⟨rfl, rfl⟩
      · rw [beq_iff_eq.mp h]; exact ⟨rfl, rfl⟩
    · cases h
  | _ => cases h
def ri_dft : FieldType → Jvm.Term
  | .byte => .int 0 | .char => .int 0 | .short => .int 0 | .boolean => .int 0 | .int => .int 0
  | .long => .long 0
  | .double => .op1 .bitsD (.long 0)
  | .float => .op1 .bitsF (.int 0)
  | _ => .null
theorem ri_dft_s {ρ : Nat → Int32} {sa : String → Nat → Nat} {ad : Nat → Nat} (ty : FieldType) : ri_cv ρ sa ad (ri_dft ty) = defaultValue ty := by cases ty <;> rfl
theorem ri_dft_ok {n : Nat} (ty : FieldType) : ri_ok n (ri_dft ty) := by cases ty <;> exact trivial
/-- a constant index in range, as a number -/
def ri_ix (i : Jvm.Term) (n : Nat) : Option Nat := match i with
  | .int v => if v < 0 ∨ n ≤ v.toNatClampNeg then none else some v.toNatClampNeg
  | _ => none
theorem ri_ix_s {i : Jvm.Term} {n j : Nat} (h : ri_ix i n = some j) : ∃ v : Int32, i = .int v ∧ vp_in v n ∧ v.toNatClampNeg = j ∧ j < n := by
  unfold ri_ix at h
  split at h
  · next v =>
    split at h
    · cases h
    · next hv => cases h; exact ⟨v, rfl, hv, rfl, Nat.not_le.mp fun q => hv (Or.inr q)⟩
  · cases h
abbrev ri_H1 : Type := Nat × List Jvm.Term × ri_Me × Nat × Nat × List ri_Ob
def ri_getf (G : ri_Tb) (M : ri_Mt) (idx : Nat) (st : List Jvm.Term) (mem : ri_Me) : Option ri_H1 := match ri_cp G M idx, st with
  | some (kd, ci, j, _), .index k :: r => match mem[k]? with
    | some (.inl (ci2, fs)) => match fs[j]? with
      | some t => if kd ≤ 1 ∧ ci2 = ci then some (3, t :: r, mem, 0, 0, []) else none
      | none => none
    | _ => none
  | _, _ => none
def ri_putf (G : ri_Tb) (M : ri_Mt) (idx : Nat) (st : List Jvm.Term) (mem : ri_Me) : Option ri_H1 := match ri_cp G M idx, st with
  | some (kd, ci, j, _), t :: .index k :: r => match mem[k]?, (ri_cls G)[ci]?, ((ri_fts G).getD ci [])[j]? with
    | some (.inl (ci2, fs)), some (_, T, _), some ty => if kd ≤ 1 ∧ ci2 = ci ∧ j < fs.length ∧ ri_fit ty t = true ∧ ((T j).2.2.2 = false ∨ (kd = 0 ∧ (ri_nm M).name = "<init>" ∧ (T j).1 = ri_own M)) then some (3, r, mem.set k (.inl (ci, fs.set j t)), 0, 0, []) else none
    | _, _, _ => none
  | _, _ => none
def ri_iald (G : ri_Tb) (cs : List ri_Cd) (st : List Jvm.Term) (mem : ri_Me) : Option ri_H1 := match st with
  | i :: .index k :: r => match mem[k]? with
    | some (.inr (ty, n, d, ov)) => if (ri_aty G)[ty]? = some .int then (match ri_ix i n with
        | some j => if ri_k (ri_look d ov j) = 0 then some (1, ri_look d ov j :: r, mem, 0, 0, []) else none
        | none => match ov with
          | [] => if ri_k i = 0 ∧ ri_k d = 0 then some (1, d :: r, mem, 0, 0, [(cs, i, n)]) else none
          | _ => none) else none
    | _ => none
  | _ => none
def ri_iast (G : ri_Tb) (st : List Jvm.Term) (mem : ri_Me) : Option ri_H1 := match st with
  | t :: i :: .index k :: r => match mem[k]? with
    | some (.inr (ty, n, d, ov)) => match ri_ix i n with
      | some j => if (ri_aty G)[ty]? = some .int ∧ ri_k t = 0 then some (1, r, mem.set k (.inr (ty, n, d, ri_put d ov j t)), 0, 0, []) else none
      | none => none
    | _ => none
  | _ => none
def ri_lald (G : ri_Tb) (st : List Jvm.Term) (mem : ri_Me) : Option ri_H1 := match st with
  | i :: .index k :: r => match mem[k]? with
    | some (.inr (ty, n, d, ov)) => match ri_ix i n with
      | some j => if (ri_aty G)[ty]? = some .long ∧ ri_k (ri_look d ov j) = 1 then some (1, ri_look d ov j :: r, mem, 0, 0, []) else none
      | none => none
    | _ => none
  | _ => none
def ri_last (G : ri_Tb) (st : List Jvm.Term) (mem : ri_Me) : Option ri_H1 := match st with
  | t :: i :: .index k :: r => match mem[k]? with
    | some (.inr (ty, n, d, ov)) => match ri_ix i n with
      | some j => if (ri_aty G)[ty]? = some .long ∧ ri_k t = 1 then some (1, r, mem.set k (.inr (ty, n, d, ri_put d ov j t)), 0, 0, []) else none
      | none => none
    | _ => none
  | _ => none
def ri_aald (G : ri_Tb) (st : List Jvm.Term) (mem : ri_Me) : Option ri_H1 := match st with
  | i :: .index k :: r => match mem[k]? with
    | some (.inr (ty, n, d, ov)) => match ri_ix i n, (ri_aty G)[ty]? with
      | some j, some (.object _) => if ri_k (ri_look d ov j) = 2 ∨ ri_k (ri_look d ov j) = 3 then some (1, ri_look d ov j :: r, mem, 0, 0, []) else none
      | _, _ => none
    | _ => none
  | _ => none
def ri_aast (G : ri_Tb) (st : List Jvm.Term) (mem : ri_Me) : Option ri_H1 := match st with
  | .index kv :: i :: .index k :: r => match mem[k]?, mem[kv]? with
    | some (.inr (ty, n, d, ov)), some (.inl (ci, _)) => match ri_ix i n, (ri_cls G)[ci]? with
      | some j, some rr => if (ri_aty G)[ty]? = some (.object rr.1) then some (1, r, mem.set k (.inr (ty, n, d, ri_put d ov j (.index kv))), 0, 0, []) else none
      | _, _ => none
    | _, _ => none
  | _ => none
def ri_alen (G : ri_Tb) (st : List Jvm.Term) (mem : ri_Me) : Option ri_H1 := match st with
  | .index k :: r => match mem[k]? with
    | some (.inr (ty, n, _, _)) => match (ri_aty G)[ty]? with
      | some _ => some (1, ri_ci (Int32.ofNat n) :: r, mem, 0, 0, [])
      | none => none
    | _ => none
  | _ => none
def ri_newo (G : ri_Tb) (M : ri_Mt) (idx : Nat) (st : List Jvm.Term) (mem : ri_Me) : Option ri_H1 := match ri_cp G M idx with
  | some (4, ci, _, _) => match (ri_cls G)[ci]?, (ri_fts G)[ci]? with
    | some (_, _, N), some tys => some (3, .index mem.length :: st, mem ++ [.inl (ci, tys.map ri_dft)], 1, N, [])
    | _, _ => none
  | _ => none
def ri_isI : FieldType → Bool
  | .int => true | .boolean => true | .byte => true | .char => true | .short => true | .long => true
  | .object _ => true
  | _ => false
def ri_newr (G : ri_Tb) (ty : FieldType) (len : Nat) (st : List Jvm.Term) (mem : ri_Me) : Option ri_H1 := match st, (ri_aty G).findIdx? (fun z => z == ty) with
  | .int v :: r, some a => if ri_isI ty = true ∧ ¬ v < 0 ∧ v.toNatClampNeg ≤ 4096 then some (len, .index mem.length :: r, mem ++ [.inr (a, v.toNatClampNeg, ri_dft ty, [])], 1, v.toNatClampNeg, []) else none
  | _, _ => none
def ri_ldc (G : ri_Tb) (M : ri_Mt) (idx : Nat) (st : List Jvm.Term) (mem : ri_Me) : Option ri_H1 := match ri_cp G M idx with
  | some (8, a, b, _) => some (2, ri_ci (Int32.ofNat a - Int32.ofNat b) :: st, mem, 0, 0, [])
  | some (9, _, _, _) => some (2, .string (ri_own M) idx :: st, mem, 0, 0, [])
  | _ => none
def ri_ldc2 (G : ri_Tb) (M : ri_Mt) (idx : Nat) (st : List Jvm.Term) (mem : ri_Me) : Option ri_H1 := match ri_cp G M idx with
  | some (14, a, b, _) => some (3, ri_cl (Int64.ofNat a - Int64.ofNat b) :: st, mem, 0, 0, [])
  | _ => none
/-- a whole row of ints copied over another of its length -/
def ri_acpy (G : ri_Tb) (st : List Jvm.Term) (mem : ri_Me) : Option ri_H1 := match st with
  | .int n :: .int dp :: .index k1 :: .int sp :: .index k0 :: r => match mem[k0]?, mem[k1]? with
    | some (.inr (t0, n0, d0, o0)), some (.inr (t1, n1, _, _)) => if (ri_aty G)[t0]? = some .int ∧ t1 = t0 ∧ n0 = n1 ∧ sp = 0 ∧ dp = 0 ∧ ¬ n < 0 ∧ n.toNatClampNeg = n0 ∧ r.length ≤ 4 then some (3, r, mem.set k1 (.inr (t0, n0, d0, o0)), 0, 0, []) else none
    | _, _ => none
  | _ => none
def ri_typeOf : ArrayType → FieldType := newarray.typeOf
def ri_heap (G : ri_Tb) (M : ri_Mt) (cs : List ri_Cd) (i : Instr) (st : List Jvm.Term) (mem : ri_Me) : Option ri_H1 := match i with
  | .getfield idx => ri_getf G M idx st mem
  | .putfield idx => ri_putf G M idx st mem
  | .iaload => ri_iald G cs st mem
  | .iastore => ri_iast G st mem
  | .laload => ri_lald G st mem
  | .lastore => ri_last G st mem
  | .ldc2_w idx => ri_ldc2 G M idx st mem
  | .aaload => ri_aald G st mem
  | .aastore => ri_aast G st mem
  | .arraylength => ri_alen G st mem
  | .new idx => ri_newo G M idx st mem
  | .newarray t => ri_newr G (ri_typeOf t) 2 st mem
  | .anewarray idx => match ri_cp G M (idx + 100000) with
    | some (6, a, _, _) => match (ri_aty G)[a]? with
      | some ty => ri_newr G ty 3 st mem
      | none => none
    | _ => none
  | .ldc idx => ri_ldc G M idx st mem
  | .invokestatic idx => match ri_cp G M idx with
    | some (12, _, _, _) => ri_acpy G st mem
    | _ => none
  | _ => none
end RIT
end
section
/-! RI: the instructions that touch the heap are sound -/
section RIW
def ri_tys (aty : List FieldType) (tyc : Nat → ClassId) : List (ClassId × FieldType) := aty.mapIdx (fun j ty => (tyc j, ty))
theorem ri_tys_get {aty : List FieldType} {tyc : Nat → ClassId} {j : Nat} {ty : FieldType} (h : aty[j]? = some ty) : (ri_tys aty tyc)[j]? = some (tyc j, ty) := by
  unfold ri_tys
  rw [List.getElem?_mapIdx, h]
  rfl
/-- the value of an int that hangs on no cell -/
def ri_iv (ρ : Nat → Int32) (t : Jvm.Term) : Int32 := ri_gI (ri_cv ρ (fun _ _ => 0) (fun _ => 0) t)
theorem ri_iv_eq {ρ : Nat → Int32} {sa sa' : String → Nat → Nat} {ad ad' : Nat → Nat} (t : Jvm.Term) : ri_gI (ri_cv ρ sa ad t) = ri_gI (ri_cv ρ sa' ad' t) ∧ ri_gL (ri_cv ρ sa ad t) = ri_gL (ri_cv ρ sa' ad' t) := ⟨(ri_key t).1, (ri_key t).2.1⟩
theorem ri_ivI {ρ : Nat → Int32} {sa : String → Nat → Nat} {ad : Nat → Nat} {t : Jvm.Term} (h : ri_k t = 0) : ri_cv ρ sa ad t = .int (ri_iv ρ t) := by
  rw [ri_I h]
  unfold ri_iv
  rw [(ri_iv_eq t).1]
/-- what held on a way: 0: equal, else: less -/
def ri_rel (k : Nat) (x y : Int32) : Prop := match k with
  | 0 => x = y
  | _ => x < y
def ri_sat (ρ : Nat → Int32) (q : ri_Cd) : Prop := q.2.2.2 = true ↔ ri_rel q.1 (ri_iv ρ q.2.1) (ri_iv ρ q.2.2.1)
def ri_obs (ρ : Nat → Int32) (o : ri_Ob) : Prop := (∀ q ∈ o.1, ri_sat ρ q) → vp_in (ri_iv ρ o.2.1) o.2.2
def ri_link (ALL : List Jvm.Cond) (STR : List (String × Nat × String)) (G : ri_Tb) (own : String) (idx : Nat) (q : ri_Lk) : Prop := match q with
  | (0, a, b, _) => ∃ (C : String) (T : u_T) (N : Nat), (ri_cls G)[a]? = some (C, T, N) ∧ b < N ∧ Jvm.Cond.fieldLink own idx (T b).1 (T b).2.1 (T b).2.2.1 ∈ ALL
  | (1, a, b, tx) => ∃ (C : String) (T : u_T) (N : Nat), (ri_cls G)[a]? = some (C, T, N) ∧ b < N ∧ Jvm.Cond.fieldLinkNest own idx (T b).1 (T b).2.1 (T b).2.2.1 tx ∈ ALL
  | (4, a, _, _) => ∃ (C : String) (T : u_T) (N : Nat), (ri_cls G)[a]? = some (C, T, N) ∧ Jvm.Cond.classLink own idx C ∈ ALL ∧ Jvm.Cond.instantiable C N ∈ ALL ∧ Jvm.Cond.initialized C ∈ ALL
  | (6, a, _, _) => ∃ C, (ri_aty G)[a]? = some (.object C) ∧ Jvm.Cond.classLink own (idx - 100000) C ∈ ALL ∧ Jvm.Cond.arrayOver (.object C) ∈ ALL
  | (8, a, b, _) => Jvm.Cond.constant own idx (Int32.ofNat a - Int32.ofNat b) ∈ ALL
  | (5, _, _, E) => Jvm.Cond.classLink own idx E ∈ ALL ∧ Jvm.Cond.initialized E ∈ ALL ∧ Bundle.fit E = true
  | (9, _, _, tx) => (own, idx, tx) ∈ STR
  | (14, a, b, _) => Jvm.Cond.constantLong own idx (Int64.ofNat a - Int64.ofNat b) ∈ ALL
  | (13, _, _, E) => ∃ names : List String, names.length ≤ 2 ∧ (∀ n ∈ names, Bundle.fit n = true) ∧ ∀ w ∈ vx_atS own idx E names, w ∈ ALL ∧ vx_ot w = true
  | (20, mi, n, _) => ∃ M2, (ri_mts G)[mi]? = some M2 ∧ (parseMethodDescriptor (ri_nm M2).desc).map (fun d => d.parameters.length) = some n ∧ Jvm.Cond.methodLink own idx (ri_nm M2) ∈ ALL ∧ Jvm.Cond.instanceMethod (ri_nm M2) ∈ ALL ∧ Jvm.Cond.selects (ri_nm M2).cls (ri_nm M2) (ri_nm M2) ∈ ALL
  | (21, mi, n, _) => ∃ M2, (ri_mts G)[mi]? = some M2 ∧ (parseMethodDescriptor (ri_nm M2).desc).map (fun d => d.parameters.length) = some n ∧ Jvm.Cond.methodLink own idx (ri_nm M2) ∈ ALL ∧ Jvm.Cond.static (ri_nm M2) ∈ ALL
  | (22, mi, n, _) => ∃ M2, (ri_mts G)[mi]? = some M2 ∧ (parseMethodDescriptor (ri_nm M2).desc).map (fun d => d.parameters.length) = some n ∧ Jvm.Cond.methodLink own idx (ri_nm M2) ∈ ALL ∧ Jvm.Cond.instanceMethod (ri_nm M2) ∈ ALL ∧ (ri_nm M2).name = "<init>" ∧ ri_rt M2 = none
  | (30, mi, n, tx) => ∃ M2, (ri_mts G)[mi]? = some M2 ∧ (parseMethodDescriptor (ri_nm M2).desc).map (fun d => d.parameters.length) = some n ∧ Jvm.Cond.methodLinkNest own idx (ri_nm M2) tx ∈ ALL ∧ Jvm.Cond.instanceMethod (ri_nm M2) ∈ ALL ∧ Jvm.Cond.selects (ri_nm M2).cls (ri_nm M2) (ri_nm M2) ∈ ALL
  | (31, mi, n, tx) => ∃ M2, (ri_mts G)[mi]? = some M2 ∧ (parseMethodDescriptor (ri_nm M2).desc).map (fun d => d.parameters.length) = some n ∧ Jvm.Cond.methodLinkNest own idx (ri_nm M2) tx ∈ ALL ∧ Jvm.Cond.static (ri_nm M2) ∈ ALL
  | (32, mi, n, tx) => ∃ M2, (ri_mts G)[mi]? = some M2 ∧ (parseMethodDescriptor (ri_nm M2).desc).map (fun d => d.parameters.length) = some n ∧ Jvm.Cond.methodLinkNest own idx (ri_nm M2) tx ∈ ALL ∧ Jvm.Cond.instanceMethod (ri_nm M2) ∈ ALL ∧ (ri_nm M2).name = "<init>" ∧ ri_rt M2 = none
  | (7, _, _, _) => Jvm.Cond.methodLink own idx objectInit ∈ ALL ∧ Jvm.Cond.instanceMethod objectInit ∈ ALL ∧ Jvm.Cond.code objectInit ⟨#[0xb1]⟩ 1 none ∈ ALL
  | (10, _, _, _) => Jvm.Cond.methodLink own idx Lib.Math.max.name ∈ ALL ∧ Jvm.Cond.static Lib.Math.max.name ∈ ALL ∧ Jvm.Cond.initialized "java/lang/Math" ∈ ALL ∧ Jvm.Cond.code Lib.Math.max.name Lib.Math.max.code 2 (some .int) ∈ ALL
  | (11, _, _, _) => Jvm.Cond.methodLink own idx Lib.Math.min.name ∈ ALL ∧ Jvm.Cond.static Lib.Math.min.name ∈ ALL ∧ Jvm.Cond.initialized "java/lang/Math" ∈ ALL ∧ Jvm.Cond.code Lib.Math.min.name Lib.Math.min.code 2 (some .int) ∈ ALL
  | (12, _, _, _) => Jvm.Cond.methodLink own idx arraycopyName ∈ ALL ∧ Jvm.Cond.native arraycopyName ∈ ALL ∧ Jvm.Cond.static arraycopyName ∈ ALL ∧ Jvm.Cond.initialized "java/lang/System" ∈ ALL
  | _ => True
def ri_clOK (ALL : List Jvm.Cond) (G : ri_Tb) : Prop := ∀ (ci : Nat) (C : String) (T : u_T) (N : Nat), (ri_cls G)[ci]? = some (C, T, N) → ∃ tys : List FieldType, (ri_fts G)[ci]? = some tys ∧ tys.length = N ∧ (∀ k, k < N → parseFieldDescriptor (T k).2.2.1 = tys[k]?) ∧ (∀ a, a < N → ∀ b, b < N → a ≠ b → (T a).2.1 ≠ (T b).2.1) ∧ ∀ w ∈ u_ws C T N, w ∈ ALL
def ri_lkOK (ALL : List Jvm.Cond) (STR : List (String × Nat × String)) (G : ri_Tb) : Prop := ∀ M ∈ ri_mts G, ∀ q ∈ (ri_cps G).getD (ri_pn M) [], ri_link ALL STR G (ri_own M) q.1 q.2
theorem ri_cp_s {ALL : List Jvm.Cond} {STR : List (String × Nat × String)} {G : ri_Tb} {M : ri_Mt} {idx : Nat} {q : ri_Lk} (hL : ri_lkOK ALL STR G) (hM : M ∈ ri_mts G) (h : ri_cp G M idx = some q) : ri_link ALL STR G (ri_own M) idx q := by
  unfold ri_cp at h
  obtain ⟨z, hz, rfl⟩ := Option.map_eq_some_iff.mp h
  have h1 := hL M hM z (List.mem_of_find?_eq_some hz)
  have h2 : z.1 = idx := by simpa using List.find?_some hz
  rw [← h2]
  exact h1
/-- what holds of a method that is walked -/
def ri_Ctx (ALL : List Jvm.Cond) (STR : List (String × Nat × String)) (sa : String → Nat → Nat) (G : ri_Tb) (M : ri_Mt) (D : va_G) (tyc : Nat → ClassId) (A : Nat → Prop) (p : Program) (s : State) (m : MethodId) (args : Array Value) (meth : Method) (c : Code) : Prop :=
  (p.tables.exec = Jvm.exec ∧ c.code = ri_by M ∧ c.maxLocals = ri_mx M ∧ s.vm.findClass (ri_own M) = some m.cls ∧ ((ri_nm M).name = "<init>" → meth.name = "<init>")) ∧ M ∈ ri_mts G ∧ ri_clOK ALL G ∧ ri_lkOK ALL STR G ∧ (∀ w ∈ ALL, w.before args s = true) ∧ va_K D (ri_cls G) (ri_tys (ri_aty G) tyc) s ∧ (∀ q, s.heap.size ≤ q → A q) ∧ (∀ q ∈ STR, vk_R q.1 q.2.1 q.2.2 (sa q.1 q.2.1) s)
section RIW1
variable {p : Program} {l : Launch} {e : Env} {R : Room} {s : State} {m : MethodId} {args : Array Value} {below : List Frame} {meth : Method} {c : Code} {H : Heap} {locs : List Loc} {cells slots : Nat} {Q : State → Prop}
variable {ALL : List Jvm.Cond} {STR : List (String × Nat × String)} {G : ri_Tb} {M : ri_Mt} {D : va_G} {tyc : Nat → ClassId} {A : Nat → Prop}
variable {ρ : Nat → Int32} {sa : String → Nat → Nat} {ad : Nat → Nat} {st : List Jvm.Term} {mem : ri_Me} {pc idx : Nat} {ls : Array Slot} {cs : List ri_Cd} {x : ri_H1}
/-- where the walk goes on -/
def ri_KK (p : Program) (l : Launch) (e : Env) (R : Room) (s : State) (m : MethodId) (args : Array Value) (below : List Frame) (meth : Method) (c : Code) (cells slots : Nat) (Q : State → Prop) (G : ri_Tb) (D : va_G) (tyc : Nat → ClassId) (A : Nat → Prop) (ρ : Nat → Int32) (sa : String → Nat → Nat) (ad : Nat → Nat) (mem : ri_Me) (ls : Array Slot) (pc : Nat) (x : ri_H1) : Prop :=
  ∀ (ad' : Nat → Nat) (H' : Heap) (locs' : List Loc), ri_ag mem.length ad ad' → va_P D (ri_cls G) (ri_w ρ sa (ri_aty G) tyc ad' x.2.2.1) H' → va_D A (ri_w ρ sa (ri_aty G) tyc ad' x.2.2.1) → va_S A s.heap H' locs' → ri_okM x.2.2.1.length x.2.2.1 → mem.length ≤ x.2.2.1.length → (∀ t ∈ x.2.1, ri_ok x.2.2.1.length t) →
    W p l e R s m args below meth c H' locs' (cells + x.2.2.2.1) (slots + x.2.2.2.2.1) Q (F0 m (pc + x.1) ls (x.2.1.map (ri_cv ρ sa ad')))
theorem ri_getf_W (hC : ri_Ctx ALL STR sa G M D tyc A p s m args meth c) (h : ri_getf G M idx st mem = some x) (hd : decode (ri_by M) pc = .ok (.getfield idx, x.1)) (hP : va_P D (ri_cls G) (ri_w ρ sa (ri_aty G) tyc ad mem) H) (hD : va_D A (ri_w ρ sa (ri_aty G) tyc ad mem)) (hS : va_S A s.heap H locs) (hok : ri_okM mem.length mem) (hst : ∀ t ∈ st, ri_ok mem.length t)
    (kk : ri_KK p l e R s m args below meth c cells slots Q G D tyc A ρ sa ad mem ls pc x) : W p l e R s m args below meth c H locs cells slots Q (F0 m pc ls (st.map (ri_cv ρ sa ad))) := by
  obtain ⟨⟨hx, hb, hml, hown, hin⟩, hM, hcl, hlk, hts, hK, hA, hstr⟩ := hC
  unfold ri_getf at h
  split at h
  · next kd ci j tx k r hcp =>
    split at h
    · next ci2 fs hm =>
      split at h
      · next t ht =>
        split at h
        · next hk =>
          cases h
          obtain ⟨hk1, rfl⟩ := hk
          have hlink := ri_cp_s hlk hM hcp
          have k1 := kk ad H locs ri_ag_rf hP hD hS hok (Nat.le_refl _) (fun z hz => by
            rcases List.mem_cons.mp hz with rfl | hz
            · exact hok _ (List.mem_of_getElem? hm) _ (List.mem_of_getElem? ht)
            · exact hst z (List.mem_cons_of_mem _ hz))
          have hv : (fs.map (ri_cv ρ sa ad))[j]? = some (ri_cv ρ sa ad t) := by rw [List.getElem?_map, ht]; rfl
          match kd, hk1, hlink with
          | 0, _, hlink =>
            obtain ⟨C, T, N, h1, h2, h3⟩ := hlink
            obtain ⟨tys, -, -, -, -, hin2⟩ := hcl _ _ _ _ h1
            exact va_get (Ts := ALL) hx hb hts hin2 hown hK hP k (ri_w_get hm) h1 j h2 (hts _ h3) (fun _ h9 => h9) hv hd k1
          | 1, _, hlink =>
            obtain ⟨C, T, N, h1, h2, h3⟩ := hlink
            obtain ⟨tys, -, -, -, -, hin2⟩ := hcl _ _ _ _ h1
            exact va_getN (Ts := ALL) hx hb hts hin2 hown hK hP k (ri_w_get hm) h1 j h2 (hts _ h3) (fun _ h9 => h9) hv hd k1
        · cases h
      · cases h
    · cases h
  · cases h
theorem ri_putf_W (hC : ri_Ctx ALL STR sa G M D tyc A p s m args meth c) (h : ri_putf G M idx st mem = some x) (hd : decode (ri_by M) pc = .ok (.putfield idx, x.1)) (hP : va_P D (ri_cls G) (ri_w ρ sa (ri_aty G) tyc ad mem) H) (hD : va_D A (ri_w ρ sa (ri_aty G) tyc ad mem)) (hS : va_S A s.heap H locs) (hok : ri_okM mem.length mem) (hst : ∀ t ∈ st, ri_ok mem.length t)
    (kk : ri_KK p l e R s m args below meth c cells slots Q G D tyc A ρ sa ad mem ls pc x) : W p l e R s m args below meth c H locs cells slots Q (F0 m pc ls (st.map (ri_cv ρ sa ad))) := by
  obtain ⟨⟨hx, hb, hml, hown, hin⟩, hM, hcl, hlk, hts, hK, hA, hstr⟩ := hC
  unfold ri_putf at h
  split at h
  · next kd ci j tx t k r hcp =>
    split at h
    · next ci2 fs C T N ty hm hc1 hty =>
      split at h
      · next hk =>
        cases h
        obtain ⟨hk1, rfl, hl, hfit, hfin⟩ := hk
        have hlink := ri_cp_s hlk hM hcp
        obtain ⟨hn, hf⟩ := ri_fit_s (ρ := ρ) (sa := sa) (ad := ad) hfit
        have ht : ri_ok mem.length t := hst t List.mem_cons_self
        obtain ⟨tys, q1, q2, q3, q4, q5⟩ := hcl _ _ _ _ hc1
        have kA : ∀ (H1 : Heap) (locs1 : List Loc), va_P D (ri_cls G) ((ri_w ρ sa (ri_aty G) tyc ad mem).set k (ad k, .inr (ci2, (fs.map (ri_cv ρ sa ad)).set j (ri_cv ρ sa ad t)))) H1 → va_D A ((ri_w ρ sa (ri_aty G) tyc ad mem).set k (ad k, .inr (ci2, (fs.map (ri_cv ρ sa ad)).set j (ri_cv ρ sa ad t)))) → va_S A s.heap H1 locs1 → W p l e R s m args below meth c H1 locs1 cells slots Q (F0 m (pc + 3) ls (r.map (ri_cv ρ sa ad))) := by
          intro H1 locs1 hP1 hD1 hS1
          rw [ri_map_set] at hP1 hD1
          have e9 := ri_w_set (ρ := ρ) (sa := sa) (aty := ri_aty G) (tyc := tyc) (ad := ad) (mem := mem) (k := k) (e := .inl (ci2, fs.set j t))
          simp only [ri_ce] at e9
          rw [e9] at hP1 hD1
          refine kk ad H1 locs1 ri_ag_rf hP1 hD1 hS1 ?_ ?_ ?_
          · show ri_okM (mem.set k _).length _
            rw [List.length_set]
            exact ri_okM_set hok (ri_ok_set (hok _ (List.mem_of_getElem? hm)) ht)
          · show mem.length ≤ (mem.set k _).length
            rw [List.length_set]; exact Nat.le_refl _
          · intro z hz
            show ri_ok (mem.set k _).length z
            rw [List.length_set]
            exact hst z (List.mem_cons_of_mem _ (List.mem_cons_of_mem _ hz))
        have hlm : j < (fs.map (ri_cv ρ sa ad)).length := by rw [List.length_map]; exact hl
        have hdt : (ri_fts G).getD ci2 [] = tys := by rw [List.getD_eq_getElem?_getD, q1]; rfl
        rw [hdt] at hty
        have hty0 : ∀ k, k < N → parseFieldDescriptor (T k).2.2.1 = some (tys.getD k .int) := fun k hk => by
          rw [q3 k hk, List.getD_eq_getElem?_getD]
          rw [← q2] at hk
          rw [List.getElem?_eq_getElem hk]; rfl
        match kd, hk1, hlink, hfin with
        | 0, _, hlink, hfin =>
          obtain ⟨C2, T2, N2, h1, h2, h3⟩ := hlink
          rw [hc1] at h1
          cases h1
          have hpd : parseFieldDescriptor (T j).2.2.1 = some ty := by rw [q3 j h2]; exact hty
          rcases hfin with hfin | ⟨-, hi, hde⟩
          · exact va_put (Ts := ALL) hx hb hts q5 _ hty0 q4 hown hK hP hD hS k (ri_w_get hm) hc1 j h2 (hts _ h3) (fun _ h9 => h9) hfin hpd hn hf hlm hd kA
          · by_cases hfin : (T j).2.2.2 = true
            · exact va_putF (Ts := ALL) hx hb hts q5 _ hty0 q4 hown hK hP hD hS k (ri_w_get hm) hc1 j h2 (hts _ h3) (fun _ h9 => h9) hfin (hin hi) hde hpd hn hf hlm hd kA
            · exact va_put (Ts := ALL) hx hb hts q5 _ hty0 q4 hown hK hP hD hS k (ri_w_get hm) hc1 j h2 (hts _ h3) (fun _ h9 => h9) (by simpa using hfin) hpd hn hf hlm hd kA
        | 1, _, hlink, hfin =>
          obtain ⟨C2, T2, N2, h1, h2, h3⟩ := hlink
          rw [hc1] at h1
          cases h1
          have hpd : parseFieldDescriptor (T j).2.2.1 = some ty := by rw [q3 j h2]; exact hty
          rcases hfin with hfin | ⟨h0, -⟩
          · exact va_putN (Ts := ALL) hx hb hts q5 _ hty0 q4 hown hK hP hD hS k (ri_w_get hm) hc1 j h2 (hts _ h3) (fun _ h9 => h9) hfin hpd hn hf hlm hd kA
          · cases h0
      · cases h
    · cases h
  · cases h
theorem ri_ce_int {ty n : Nat} {d : Jvm.Term} {ov : List (Nat × Jvm.Term)} (h : (ri_aty G)[ty]? = some .int) : ri_ce ρ sa (ri_aty G) tyc ad (.inr (ty, n, d, ov)) = .inl (tyc ty, n, .inl (fun j => ri_gI (ri_cv ρ sa ad (ri_look d ov j)))) := by
  simp only [ri_ce]
  rw [h]
  rfl
theorem ri_ce_ref {ty n : Nat} {C : String} {d : Jvm.Term} {ov : List (Nat × Jvm.Term)} (h : (ri_aty G)[ty]? = some (.object C)) : ri_ce ρ sa (ri_aty G) tyc ad (.inr (ty, n, d, ov)) = .inl (tyc ty, n, .inr (.inr (.inr (.inr (fun j => ri_gR (ri_cv ρ sa ad (ri_look d ov j))))))) := by
  simp only [ri_ce]
  rw [h]
  rfl
theorem ri_iald_W (hC : ri_Ctx ALL STR sa G M D tyc A p s m args meth c) (h : ri_iald G cs st mem = some x) (hd : decode (ri_by M) pc = .ok (.iaload, x.1)) (hP : va_P D (ri_cls G) (ri_w ρ sa (ri_aty G) tyc ad mem) H) (hD : va_D A (ri_w ρ sa (ri_aty G) tyc ad mem)) (hS : va_S A s.heap H locs) (hok : ri_okM mem.length mem) (hst : ∀ t ∈ st, ri_ok mem.length t)
    (hsat : ∀ q ∈ cs, ri_sat ρ q) (hob : ∀ o ∈ x.2.2.2.2.2, ri_obs ρ o)
    (kk : ri_KK p l e R s m args below meth c cells slots Q G D tyc A ρ sa ad mem ls pc x) : W p l e R s m args below meth c H locs cells slots Q (F0 m pc ls (st.map (ri_cv ρ sa ad))) := by
  obtain ⟨⟨hx, hb, hml, hown, hin⟩, hM, hcl, hlk, hts, hK, hA, hstr⟩ := hC
  unfold ri_iald at h
  split at h
  · next i k r =>
    split at h
    · next ty n d ov hm =>
      split at h
      · next hty =>
        have hw := ri_w_get (ρ := ρ) (sa := sa) (aty := ri_aty G) (tyc := tyc) (ad := ad) hm
        rw [ri_ce_int hty] at hw
        have hokc := hok _ (List.mem_of_getElem? hm)
        split at h
        · next j hj =>
          split at h
          · next hk0 =>
            cases h
            obtain ⟨v, rfl, hv, hvj, hjn⟩ := ri_ix_s hj
            have k1 := kk ad H locs ri_ag_rf hP hD hS hok (Nat.le_refl _) (fun z hz => by
              rcases List.mem_cons.mp hz with rfl | hz
              · exact ri_look_ok hokc.1 hokc.2
              · exact hst z (List.mem_cons_of_mem _ (List.mem_cons_of_mem _ hz)))
            rw [List.map_cons, ri_I hk0, ← hvj] at k1
            exact va_iald hx hb hK hP k ty hw (ri_tys_get hty) hv hd k1
          · cases h
        · next hj =>
          split at h
          · split at h
            · next hk0 =>
              cases h
              have k1 := kk ad H locs ri_ag_rf hP hD hS hok (Nat.le_refl _) (fun z hz => by
                rcases List.mem_cons.mp hz with rfl | hz
                · exact hokc.1
                · exact hst z (List.mem_cons_of_mem _ (List.mem_cons_of_mem _ hz)))
              have hv := hob (cs, i, n) List.mem_cons_self hsat
              rw [List.map_cons, ri_I hk0.2] at k1
              rw [List.map_cons, List.map_cons, ri_ivI hk0.1]
              exact va_iald hx hb hK hP k ty hw (ri_tys_get hty) hv hd k1
            · cases h
          · cases h
      · cases h
    · cases h
  · cases h
theorem ri_iast_W (hC : ri_Ctx ALL STR sa G M D tyc A p s m args meth c) (h : ri_iast G st mem = some x) (hd : decode (ri_by M) pc = .ok (.iastore, x.1)) (hP : va_P D (ri_cls G) (ri_w ρ sa (ri_aty G) tyc ad mem) H) (hD : va_D A (ri_w ρ sa (ri_aty G) tyc ad mem)) (hS : va_S A s.heap H locs) (hok : ri_okM mem.length mem) (hst : ∀ t ∈ st, ri_ok mem.length t)
    (kk : ri_KK p l e R s m args below meth c cells slots Q G D tyc A ρ sa ad mem ls pc x) : W p l e R s m args below meth c H locs cells slots Q (F0 m pc ls (st.map (ri_cv ρ sa ad))) := by
  obtain ⟨⟨hx, hb, hml, hown, hin⟩, hM, hcl, hlk, hts, hK, hA, hstr⟩ := hC
  unfold ri_iast at h
  split at h
  · next t i k r =>
    split at h
    · next ty n d ov hm =>
      split at h
      · next j hj =>
        split at h
        · next hk0 =>
          cases h
          obtain ⟨hty, hk0⟩ := hk0
          have hw := ri_w_get (ρ := ρ) (sa := sa) (aty := ri_aty G) (tyc := tyc) (ad := ad) hm
          rw [ri_ce_int hty] at hw
          have hokc := hok _ (List.mem_of_getElem? hm)
          obtain ⟨v, rfl, hv, hvj, hjn⟩ := ri_ix_s hj
          rw [List.map_cons, ri_I hk0]
          refine va_iast hx hb hK hP hD hS k ty hw (ri_tys_get hty) hv hd (fun H1 locs1 hP1 hD1 hS1 => ?_)
          have e8 : upd (fun j => ri_gI (ri_cv ρ sa ad (ri_look d ov j))) v.toNatClampNeg (ri_gI (ri_cv ρ sa ad t)) = fun i => ri_gI (ri_cv ρ sa ad (ri_look d (ri_put d ov j t) i)) := by
            funext i
            rw [ri_put_cv, hvj]
            unfold upd
            split <;> rfl
          have e9 := ri_w_set (ρ := ρ) (sa := sa) (aty := ri_aty G) (tyc := tyc) (ad := ad) (mem := mem) (k := k) (e := .inr (ty, n, d, ri_put d ov j t))
          rw [ri_ce_int hty] at e9
          rw [e8, e9] at hP1 hD1
          refine kk ad H1 locs1 ri_ag_rf hP1 hD1 hS1 ?_ ?_ ?_
          · show ri_okM (mem.set k _).length _
            rw [List.length_set]
            exact ri_okM_set hok ⟨hokc.1, ri_put_ok (hst t List.mem_cons_self) hokc.2⟩
          · show mem.length ≤ (mem.set k _).length
            rw [List.length_set]; exact Nat.le_refl _
          · intro z hz
            show ri_ok (mem.set k _).length z
            rw [List.length_set]
            exact hst z (List.mem_cons_of_mem _ (List.mem_cons_of_mem _ (List.mem_cons_of_mem _ hz)))
        · cases h
      · cases h
    · cases h
  · cases h
theorem ri_ce_long {ty n : Nat} {d : Jvm.Term} {ov : List (Nat × Jvm.Term)} (h : (ri_aty G)[ty]? = some .long) : ri_ce ρ sa (ri_aty G) tyc ad (.inr (ty, n, d, ov)) = .inl (tyc ty, n, .inr (.inl (fun j => ri_gL (ri_cv ρ sa ad (ri_look d ov j))))) := by
  simp only [ri_ce]
  rw [h]
  rfl
theorem ri_lald_W (hC : ri_Ctx ALL STR sa G M D tyc A p s m args meth c) (h : ri_lald G st mem = some x) (hd : decode (ri_by M) pc = .ok (.laload, x.1)) (hP : va_P D (ri_cls G) (ri_w ρ sa (ri_aty G) tyc ad mem) H) (hD : va_D A (ri_w ρ sa (ri_aty G) tyc ad mem)) (hS : va_S A s.heap H locs) (hok : ri_okM mem.length mem) (hst : ∀ t ∈ st, ri_ok mem.length t)
    (kk : ri_KK p l e R s m args below meth c cells slots Q G D tyc A ρ sa ad mem ls pc x) : W p l e R s m args below meth c H locs cells slots Q (F0 m pc ls (st.map (ri_cv ρ sa ad))) := by
  obtain ⟨⟨hx, hb, hml, hown, hin⟩, hM, hcl, hlk, hts, hK, hA, hstr⟩ := hC
  unfold ri_lald at h
  split at h
  · next i k r =>
    split at h
    · next ty n d ov hm =>
      split at h
      · next j hj =>
        split at h
        · next hk0 =>
          cases h
          obtain ⟨hty, hk0⟩ := hk0
          have hw := ri_w_get (ρ := ρ) (sa := sa) (aty := ri_aty G) (tyc := tyc) (ad := ad) hm
          rw [ri_ce_long hty] at hw
          have hokc := hok _ (List.mem_of_getElem? hm)
          obtain ⟨v, rfl, hv, hvj, hjn⟩ := ri_ix_s hj
          have k1 := kk ad H locs ri_ag_rf hP hD hS hok (Nat.le_refl _) (fun z hz => by
            rcases List.mem_cons.mp hz with rfl | hz
            · exact ri_look_ok hokc.1 hokc.2
            · exact hst z (List.mem_cons_of_mem _ (List.mem_cons_of_mem _ hz)))
          rw [List.map_cons, ri_L hk0, ← hvj] at k1
          exact va_lald hx hb hK hP k ty hw (ri_tys_get hty) hv hd k1
        · cases h
      · cases h
    · cases h
  · cases h
theorem ri_last_W (hC : ri_Ctx ALL STR sa G M D tyc A p s m args meth c) (h : ri_last G st mem = some x) (hd : decode (ri_by M) pc = .ok (.lastore, x.1)) (hP : va_P D (ri_cls G) (ri_w ρ sa (ri_aty G) tyc ad mem) H) (hD : va_D A (ri_w ρ sa (ri_aty G) tyc ad mem)) (hS : va_S A s.heap H locs) (hok : ri_okM mem.length mem) (hst : ∀ t ∈ st, ri_ok mem.length t)
    (kk : ri_KK p l e R s m args below meth c cells slots Q G D tyc A ρ sa ad mem ls pc x) : W p l e R s m args below meth c H locs cells slots Q (F0 m pc ls (st.map (ri_cv ρ sa ad))) := by
  obtain ⟨⟨hx, hb, hml, hown, hin⟩, hM, hcl, hlk, hts, hK, hA, hstr⟩ := hC
  unfold ri_last at h
  split at h
  · next t i k r =>
    split at h
    · next ty n d ov hm =>
      split at h
      · next j hj =>
        split at h
        · next hk0 =>
          cases h
          obtain ⟨hty, hk0⟩ := hk0
          have hw := ri_w_get (ρ := ρ) (sa := sa) (aty := ri_aty G) (tyc := tyc) (ad := ad) hm
          rw [ri_ce_long hty] at hw
          have hokc := hok _ (List.mem_of_getElem? hm)
          obtain ⟨v, rfl, hv, hvj, hjn⟩ := ri_ix_s hj
          rw [List.map_cons, ri_L hk0]
          refine va_last hx hb hK hP hD hS k ty hw (ri_tys_get hty) hv hd (fun H1 locs1 hP1 hD1 hS1 => ?_)
          have e8 : vp_updL (fun j => ri_gL (ri_cv ρ sa ad (ri_look d ov j))) v.toNatClampNeg (ri_gL (ri_cv ρ sa ad t)) = fun i => ri_gL (ri_cv ρ sa ad (ri_look d (ri_put d ov j t) i)) := by
            funext i
            rw [ri_put_cv, hvj]
            unfold vp_updL
            split <;> rfl
          have e9 := ri_w_set (ρ := ρ) (sa := sa) (aty := ri_aty G) (tyc := tyc) (ad := ad) (mem := mem) (k := k) (e := .inr (ty, n, d, ri_put d ov j t))
          rw [ri_ce_long hty] at e9
          rw [e8, e9] at hP1 hD1
          refine kk ad H1 locs1 ri_ag_rf hP1 hD1 hS1 ?_ ?_ ?_
          · show ri_okM (mem.set k _).length _
            rw [List.length_set]
            exact ri_okM_set hok ⟨hokc.1, ri_put_ok (hst t List.mem_cons_self) hokc.2⟩
          · show mem.length ≤ (mem.set k _).length
            rw [List.length_set]; exact Nat.le_refl _
          · intro z hz
            show ri_ok (mem.set k _).length z
            rw [List.length_set]
            exact hst z (List.mem_cons_of_mem _ (List.mem_cons_of_mem _ (List.mem_cons_of_mem _ hz)))
        · cases h
      · cases h
    · cases h
  · cases h
theorem ri_rf {t : Jvm.Term} (h : ri_k t = 2 ∨ ri_k t = 3) : va_rf (ri_gR (ri_cv ρ sa ad t)) = ri_cv ρ sa ad t := by
  rcases h with h | h
  · obtain ⟨a, ha⟩ := ri_R (ρ := ρ) (sa := sa) (ad := ad) h
    rw [ha]; rfl
  · rw [ri_N h]; rfl
theorem ri_aald_W (hC : ri_Ctx ALL STR sa G M D tyc A p s m args meth c) (h : ri_aald G st mem = some x) (hd : decode (ri_by M) pc = .ok (.aaload, x.1)) (hP : va_P D (ri_cls G) (ri_w ρ sa (ri_aty G) tyc ad mem) H) (hD : va_D A (ri_w ρ sa (ri_aty G) tyc ad mem)) (hS : va_S A s.heap H locs) (hok : ri_okM mem.length mem) (hst : ∀ t ∈ st, ri_ok mem.length t)
    (kk : ri_KK p l e R s m args below meth c cells slots Q G D tyc A ρ sa ad mem ls pc x) : W p l e R s m args below meth c H locs cells slots Q (F0 m pc ls (st.map (ri_cv ρ sa ad))) := by
  obtain ⟨⟨hx, hb, hml, hown, hin⟩, hM, hcl, hlk, hts, hK, hA, hstr⟩ := hC
  unfold ri_aald at h
  split at h
  · next i k r =>
    split at h
    · next ty n d ov hm =>
      split at h
      · next j C hj hty =>
        split at h
        · next hk0 =>
          cases h
          have hw := ri_w_get (ρ := ρ) (sa := sa) (aty := ri_aty G) (tyc := tyc) (ad := ad) hm
          rw [ri_ce_ref hty] at hw
          have hokc := hok _ (List.mem_of_getElem? hm)
          obtain ⟨v, rfl, hv, hvj, hjn⟩ := ri_ix_s hj
          have k1 := kk ad H locs ri_ag_rf hP hD hS hok (Nat.le_refl _) (fun z hz => by
            rcases List.mem_cons.mp hz with rfl | hz
            · exact ri_look_ok hokc.1 hokc.2
            · exact hst z (List.mem_cons_of_mem _ (List.mem_cons_of_mem _ hz)))
          rw [List.map_cons, ← ri_rf hk0, ← hvj] at k1
          exact va_aldq hx hb hK hP k ty hw (ri_tys_get hty) hv hd k1
        · cases h
      · cases h
    · cases h
  · cases h
theorem ri_aast_W (hC : ri_Ctx ALL STR sa G M D tyc A p s m args meth c) (h : ri_aast G st mem = some x) (hd : decode (ri_by M) pc = .ok (.aastore, x.1)) (hP : va_P D (ri_cls G) (ri_w ρ sa (ri_aty G) tyc ad mem) H) (hD : va_D A (ri_w ρ sa (ri_aty G) tyc ad mem)) (hS : va_S A s.heap H locs) (hok : ri_okM mem.length mem) (hst : ∀ t ∈ st, ri_ok mem.length t)
    (kk : ri_KK p l e R s m args below meth c cells slots Q G D tyc A ρ sa ad mem ls pc x) : W p l e R s m args below meth c H locs cells slots Q (F0 m pc ls (st.map (ri_cv ρ sa ad))) := by
  obtain ⟨⟨hx, hb, hml, hown, hin⟩, hM, hcl, hlk, hts, hK, hA, hstr⟩ := hC
  unfold ri_aast at h
  split at h
  · next kv i k r =>
    split at h
    · next ty n d ov ci fs hm hmv =>
      split at h
      · next j rr hj hc1 =>
        split at h
        · next hty =>
          cases h
          have hw := ri_w_get (ρ := ρ) (sa := sa) (aty := ri_aty G) (tyc := tyc) (ad := ad) hm
          rw [ri_ce_ref hty] at hw
          have hwv := ri_w_get (ρ := ρ) (sa := sa) (aty := ri_aty G) (tyc := tyc) (ad := ad) hmv
          have hokc := hok _ (List.mem_of_getElem? hm)
          obtain ⟨v, rfl, hv, hvj, hjn⟩ := ri_ix_s hj
          refine va_astq hx hb hK hP hD hS k ty kv ci hw (ri_tys_get hty) hwv hc1 hv hd (fun H1 locs1 hP1 hD1 hS1 => ?_)
          have e8 : va_up (fun j => ri_gR (ri_cv ρ sa ad (ri_look d ov j))) v.toNatClampNeg (some (ad kv)) = fun i => ri_gR (ri_cv ρ sa ad (ri_look d (ri_put d ov j (.index kv)) i)) := by
            funext i
            rw [ri_put_cv, hvj]
            unfold va_up
            split <;> rfl
          have e9 := ri_w_set (ρ := ρ) (sa := sa) (aty := ri_aty G) (tyc := tyc) (ad := ad) (mem := mem) (k := k) (e := .inr (ty, n, d, ri_put d ov j (.index kv)))
          rw [ri_ce_ref hty] at e9
          rw [e8, e9] at hP1 hD1
          refine kk ad H1 locs1 ri_ag_rf hP1 hD1 hS1 ?_ ?_ ?_
          · show ri_okM (mem.set k _).length _
            rw [List.length_set]
            exact ri_okM_set hok ⟨hokc.1, ri_put_ok (hst _ List.mem_cons_self) hokc.2⟩
          · show mem.length ≤ (mem.set k _).length
            rw [List.length_set]; exact Nat.le_refl _
          · intro z hz
            show ri_ok (mem.set k _).length z
            rw [List.length_set]
            exact hst z (List.mem_cons_of_mem _ (List.mem_cons_of_mem _ (List.mem_cons_of_mem _ hz)))
        · cases h
      · cases h
    · cases h
  · cases h
theorem ri_alen_W (hC : ri_Ctx ALL STR sa G M D tyc A p s m args meth c) (h : ri_alen G st mem = some x) (hd : decode (ri_by M) pc = .ok (.arraylength, x.1)) (hP : va_P D (ri_cls G) (ri_w ρ sa (ri_aty G) tyc ad mem) H) (hD : va_D A (ri_w ρ sa (ri_aty G) tyc ad mem)) (hS : va_S A s.heap H locs) (hok : ri_okM mem.length mem) (hst : ∀ t ∈ st, ri_ok mem.length t)
    (kk : ri_KK p l e R s m args below meth c cells slots Q G D tyc A ρ sa ad mem ls pc x) : W p l e R s m args below meth c H locs cells slots Q (F0 m pc ls (st.map (ri_cv ρ sa ad))) := by
  obtain ⟨⟨hx, hb, hml, hown, hin⟩, hM, hcl, hlk, hts, hK, hA, hstr⟩ := hC
  unfold ri_alen at h
  split at h
  · next k r =>
    split at h
    · next ty n d ov hm =>
      split at h
      · next z hz =>
        cases h
        have hw := ri_w_get (ρ := ρ) (sa := sa) (aty := ri_aty G) (tyc := tyc) (ad := ad) hm
        have k1 := kk ad H locs ri_ag_rf hP hD hS hok (Nat.le_refl _) (fun z hz => by
          rcases List.mem_cons.mp hz with rfl | hz
          · rw [ri_ci_eq]; trivial
          · exact hst z (List.mem_cons_of_mem _ hz))
        rw [List.map_cons, ri_ci_eq] at k1
        exact va_alen hx hb hK hP k ty hw (ri_tys_get hz) rfl hd k1
      · cases h
    · cases h
  · cases h
theorem ri_newo_W (hC : ri_Ctx ALL STR sa G M D tyc A p s m args meth c) (h : ri_newo G M idx st mem = some x) (hd : decode (ri_by M) pc = .ok (.new idx, x.1)) (hP : va_P D (ri_cls G) (ri_w ρ sa (ri_aty G) tyc ad mem) H) (hD : va_D A (ri_w ρ sa (ri_aty G) tyc ad mem)) (hS : va_S A s.heap H locs) (hok : ri_okM mem.length mem) (hst : ∀ t ∈ st, ri_ok mem.length t)
    (hc1 : cells + x.2.2.2.1 ≤ R.cells) (hs1 : slots + x.2.2.2.2.1 ≤ R.slots)
    (kk : ri_KK p l e R s m args below meth c cells slots Q G D tyc A ρ sa ad mem ls pc x) : W p l e R s m args below meth c H locs cells slots Q (F0 m pc ls (st.map (ri_cv ρ sa ad))) := by
  obtain ⟨⟨hx, hb, hml, hown, hin⟩, hM, hcl, hlk, hts, hK, hA, hstr⟩ := hC
  unfold ri_newo at h
  split at h
  · next ci b tx hcp =>
    split at h
    · next C0 T0 N tys hc0 hty =>
      cases h
      obtain ⟨C, T, N2, g1, g2, g3, g4⟩ := ri_cp_s hlk hM hcp
      rw [hc0] at g1
      cases g1
      obtain ⟨tys2, q1, q2, q3, q4, q5⟩ := hcl _ _ _ _ hc0
      rw [hty] at q1
      cases q1
      have hty0 : ∀ k, k < N → parseFieldDescriptor (T0 k).2.2.1 = some (tys.getD k .int) := fun k hk => by
        rw [q3 k hk, List.getD_eq_getElem?_getD]
        rw [← q2] at hk
        rw [List.getElem?_eq_getElem hk]; rfl
      refine va_new (Ts := ALL) (ci := ci) (fs := (tys.map ri_dft).map (ri_cv ρ sa ad)) hx hb hts q5 (fun k => tys.getD k .int) hty0 hown (hts _ g2) (hts _ g3) (hts _ g4) hK hP hD hS hA hc0 ?_ hc1 hs1 hd (fun q H1 hP1 hD1 hS1 => ?_)
      · intro j hj
        rw [← q2] at hj
        simp only [vp_V, List.getD_eq_getElem?_getD, List.getElem?_map, List.getElem?_eq_getElem hj, Option.map_some, Option.getD_some]
        exact (ri_dft_s _).symm
      · have e9 := ri_w_push (ρ := ρ) (sa := sa) (aty := ri_aty G) (tyc := tyc) (ad := ad) (q := q) (e := .inl (ci, tys.map ri_dft)) hok
        have hag : ri_ag mem.length ad (fun k => if k = mem.length then q else ad k) := fun k hk => if_neg (Nat.ne_of_lt hk)
        have hok2 : ∀ t ∈ tys.map ri_dft, ri_ok mem.length t := fun t ht => by
          obtain ⟨ty, -, rfl⟩ := List.mem_map.mp ht
          exact ri_dft_ok ty
        have e8 : ri_ce ρ sa (ri_aty G) tyc (fun k => if k = mem.length then q else ad k) (.inl (ci, tys.map ri_dft)) = .inr (ci, (tys.map ri_dft).map (ri_cv ρ sa ad)) := by
          simp only [ri_ce]
          rw [ri_map_ag hok2 hag]
        rw [e8] at e9
        rw [← e9] at hP1 hD1
        have hlen : (mem ++ [(.inl (ci, tys.map ri_dft) : ri_Ce)]).length = mem.length + 1 := by simp
        have k1 := kk (fun k => if k = mem.length then q else ad k) H1 locs hag hP1 hD1 hS1 (by
          show ri_okM (mem ++ [_]).length (mem ++ [_])
          rw [hlen]
          exact ri_okM_push hok (fun t ht => ri_ok_mono (hok2 t ht) (Nat.le_succ _))) (by
          show mem.length ≤ (mem ++ [_]).length
          rw [hlen]; exact Nat.le_succ _) (by
          intro z hz
          show ri_ok (mem ++ [_]).length z
          rw [hlen]
          rcases List.mem_cons.mp hz with rfl | hz
          · exact Nat.lt_succ_self _
          · exact ri_ok_mono (hst z hz) (Nat.le_succ _))
        have e7 : ((.index mem.length :: st : List Jvm.Term).map (ri_cv ρ sa (fun k => if k = mem.length then q else ad k))) = .ref q :: st.map (ri_cv ρ sa ad) := by
          rw [List.map_cons, ri_map_ag hst hag]
          show Value.ref (if mem.length = mem.length then q else ad mem.length) :: _ = _
          rw [if_pos rfl]
        have k2 := k1
        simp only [e7] at k2
        exact k2
    · cases h
  · cases h
theorem ri_unique {cl : List vw_C} {aty : List FieldType} {j : Nat} {ty : FieldType} {cA : ClassId} (hK : va_K D cl (ri_tys aty tyc) s) (hj : aty[j]? = some ty) (hK2 : va_K D cl (ri_tys aty tyc ++ [(cA, ty)]) s) : cA = tyc j := by
  have h1 := (hK.2 j _ (ri_tys_get hj)).2
  have h2 := (hK2.2 (ri_tys aty tyc).length (cA, ty) (by simp)).2
  cases ty with
  | object C =>
    obtain ⟨-, -, -, -, -, e1⟩ := h1
    obtain ⟨-, -, -, -, -, e2⟩ := h2
    exact Option.some.inj (e2.symm.trans e1)
  | _ => exact Option.some.inj (Eq.trans (Eq.symm h2) h1)
/-- a new row: what is behind it -/
theorem ri_newr_k {a N : Nat} {d : Jvm.Term} {len : Nat} {r : List Jvm.Term} {q : Nat} {H1 : Heap} {va : va_E} (hS1 : va_S A s.heap H1 locs) (hok : ri_okM mem.length mem) (hst : ∀ t ∈ r, ri_ok mem.length t) (hdk : ∀ k, d ≠ .index k)
    (hce : ∀ ad2, ri_ce ρ sa (ri_aty G) tyc ad2 (.inr (a, N, d, [])) = va) (hP1 : va_P D (ri_cls G) (ri_w ρ sa (ri_aty G) tyc ad mem ++ [(q, va)]) H1) (hD1 : va_D A (ri_w ρ sa (ri_aty G) tyc ad mem ++ [(q, va)]))
    (kk : ri_KK p l e R s m args below meth c cells slots Q G D tyc A ρ sa ad mem ls pc (len, .index mem.length :: r, mem ++ [.inr (a, N, d, [])], 1, N, [])) :
    W p l e R s m args below meth c H1 locs (cells + 1) (slots + N) Q (F0 m (pc + len) ls (.ref q :: r.map (ri_cv ρ sa ad))) := by
  have e9 := ri_w_push (ρ := ρ) (sa := sa) (aty := ri_aty G) (tyc := tyc) (ad := ad) (q := q) (e := .inr (a, N, d, [])) hok
  have hag : ri_ag mem.length ad (fun k => if k = mem.length then q else ad k) := fun k hk => if_neg (Nat.ne_of_lt hk)
  rw [hce] at e9
  rw [← e9] at hP1 hD1
  have hokd : ∀ n, ri_ok n d := fun n => by cases d <;> first | trivial | exact absurd rfl (hdk _)
  have hlen : (mem ++ [(.inr (a, N, d, []) : ri_Ce)]).length = mem.length + 1 := by simp
  have k1 := kk (fun k => if k = mem.length then q else ad k) H1 locs hag hP1 hD1 hS1 (by
    show ri_okM (mem ++ [_]).length (mem ++ [_])
    rw [hlen]
    exact ri_okM_push hok ⟨hokd _, fun q hq => by cases hq⟩) (by
    show mem.length ≤ (mem ++ [_]).length
    rw [hlen]; exact Nat.le_succ _) (by
    intro z hz
    show ri_ok (mem ++ [_]).length z
    rw [hlen]
    rcases List.mem_cons.mp hz with rfl | hz
    · exact Nat.lt_succ_self _
    · exact ri_ok_mono (hst z hz) (Nat.le_succ _))
  have e7 : ((.index mem.length :: r : List Jvm.Term).map (ri_cv ρ sa (fun k => if k = mem.length then q else ad k))) = .ref q :: r.map (ri_cv ρ sa ad) := by
    rw [List.map_cons, ri_map_ag hst hag]
    show Value.ref (if mem.length = mem.length then q else ad mem.length) :: _ = _
    rw [if_pos rfl]
  have k2 := k1
  simp only [e7] at k2
  exact k2
theorem ri_newr_s {ty : FieldType} {len : Nat} (h : ri_newr G ty len st mem = some x) : ∃ (v : Int32) (r : List Jvm.Term) (a : Nat), st = .int v :: r ∧ (ri_aty G)[a]? = some ty ∧ ri_isI ty = true ∧ ¬ v < 0 ∧ v.toNatClampNeg ≤ 4096 ∧ x = (len, .index mem.length :: r, mem ++ [.inr (a, v.toNatClampNeg, ri_dft ty, [])], 1, v.toNatClampNeg, []) := by
  unfold ri_newr at h
  split at h
  · next v r a ha =>
    split at h
    · next hk =>
      cases h
      refine ⟨v, r, a, rfl, ?_, hk.1, hk.2.1, hk.2.2, rfl⟩
      obtain ⟨ha1, ha2, -⟩ := List.findIdx?_eq_some_iff_getElem.mp ha
      rw [List.getElem?_eq_getElem ha1]
      simpa using ha2
    · cases h
  · cases h
theorem ri_newa_W {t : ArrayType} (hC : ri_Ctx ALL STR sa G M D tyc A p s m args meth c) (hac : Jvm.Cond.arrayClass (newarray.typeOf t) ∈ ALL) (h : ri_newr G (ri_typeOf t) 2 st mem = some x) (hd : decode (ri_by M) pc = .ok (.newarray t, 2)) (hP : va_P D (ri_cls G) (ri_w ρ sa (ri_aty G) tyc ad mem) H) (hD : va_D A (ri_w ρ sa (ri_aty G) tyc ad mem)) (hS : va_S A s.heap H locs) (hok : ri_okM mem.length mem) (hst : ∀ t ∈ st, ri_ok mem.length t)
    (hc1 : cells + x.2.2.2.1 ≤ R.cells) (hs1 : slots + x.2.2.2.2.1 ≤ R.slots)
    (kk : ri_KK p l e R s m args below meth c cells slots Q G D tyc A ρ sa ad mem ls pc x) : W p l e R s m args below meth c H locs cells slots Q (F0 m pc ls (st.map (ri_cv ρ sa ad))) := by
  obtain ⟨⟨hx, hb, hml, hown, hin⟩, hM, hcl, hlk, hts, hK, hA, hstr⟩ := hC
  obtain ⟨v, r, a, rfl, ha, hi, hv0, hv1, rfl⟩ := ri_newr_s h
  have hty : newarray.typeOf t = ri_typeOf t := rfl
  obtain ⟨a0, hcell, hce9⟩ : ∃ a0 : vp_A, (∀ cA : ClassId, vp_cell cA a0 = arrV cA v.toNatClampNeg (fun _ => defaultValue (ri_typeOf t))) ∧ ∀ ad2, ri_ce ρ sa (ri_aty G) tyc ad2 (.inr (a, v.toNatClampNeg, ri_dft (ri_typeOf t), [])) = .inl (tyc a, a0) := by
    cases t with
    | long => exact ⟨(v.toNatClampNeg, .inr (.inl (fun _ => 0))), fun cA => rfl, fun ad2 => by simp only [ri_ce]; rw [ha]; rfl⟩
    | int => exact ⟨(v.toNatClampNeg, .inl (fun _ => 0)), fun cA => rfl, fun ad2 => by simp only [ri_ce]; rw [ha]; rfl⟩
    | boolean => exact ⟨(v.toNatClampNeg, .inl (fun _ => 0)), fun cA => rfl, fun ad2 => by simp only [ri_ce]; rw [ha]; rfl⟩
    | byte => exact ⟨(v.toNatClampNeg, .inl (fun _ => 0)), fun cA => rfl, fun ad2 => by simp only [ri_ce]; rw [ha]; rfl⟩
    | char => exact ⟨(v.toNatClampNeg, .inl (fun _ => 0)), fun cA => rfl, fun ad2 => by simp only [ri_ce]; rw [ha]; rfl⟩
    | short => exact ⟨(v.toNatClampNeg, .inl (fun _ => 0)), fun cA => rfl, fun ad2 => by simp only [ri_ce]; rw [ha]; rfl⟩
    | _ => cases hi
  have hbytes : v.toNatClampNeg * componentBytes (ri_typeOf t) ≤ 536870912 := Nat.le_trans (Nat.mul_le_mul hv1 (show componentBytes (ri_typeOf t) ≤ 8 by cases t <;> decide)) (by decide)
  refine va_newa hx hb (hts _ hac) hty hK hP hD hS hA hcell hv0 rfl hbytes hc1 hs1 hd (fun q cA H1 hK1 hP1 hD1 hS1 => ?_)
  have e1 := ri_unique hK ha hK1
  subst e1
  exact ri_newr_k hS1 hok (fun t ht => hst t (List.mem_cons_of_mem _ ht)) (fun k => by cases t <;> first | (intro e; cases e; done) | cases hi) hce9 hP1 hD1 kk
theorem ri_newq_W {a : Nat} {ty : FieldType} {C : String} (hC : ri_Ctx ALL STR sa G M D tyc A p s m args meth c) (hl1 : Jvm.Cond.classLink (ri_own M) idx C ∈ ALL) (hl2 : Jvm.Cond.arrayOver (.object C) ∈ ALL) (h : ri_newr G (.object C) 3 st mem = some x) (hd : decode (ri_by M) pc = .ok (.anewarray idx, 3)) (hP : va_P D (ri_cls G) (ri_w ρ sa (ri_aty G) tyc ad mem) H) (hD : va_D A (ri_w ρ sa (ri_aty G) tyc ad mem)) (hS : va_S A s.heap H locs) (hok : ri_okM mem.length mem) (hst : ∀ t ∈ st, ri_ok mem.length t)
    (hc1 : cells + x.2.2.2.1 ≤ R.cells) (hs1 : slots + x.2.2.2.2.1 ≤ R.slots)
    (kk : ri_KK p l e R s m args below meth c cells slots Q G D tyc A ρ sa ad mem ls pc x) : W p l e R s m args below meth c H locs cells slots Q (F0 m pc ls (st.map (ri_cv ρ sa ad))) := by
  obtain ⟨⟨hx, hb, hml, hown, hin⟩, hM, hcl, hlk, hts, hK, hA, hstr⟩ := hC
  obtain ⟨v, r, a, rfl, ha, hi, hv0, hv1, rfl⟩ := ri_newr_s h
  have hbytes : v.toNatClampNeg * 4 ≤ 536870912 := Nat.le_trans (Nat.mul_le_mul hv1 (Nat.le_refl 4)) (by decide)
  refine va_newq hx hb hown (hts _ hl1) (va_AO.of (hts _ hl2)) hK hP hD hS hA hv0 rfl hbytes hc1 hs1 hd (fun q cA H1 hK1 hP1 hD1 hS1 => ?_)
  have e1 := ri_unique hK ha hK1
  subst e1
  exact ri_newr_k hS1 hok (fun t ht => hst t (List.mem_cons_of_mem _ ht)) (fun k e => by cases e) (fun ad2 => ri_ce_ref ha) hP1 hD1 kk
theorem ri_ldc_W (hC : ri_Ctx ALL STR sa G M D tyc A p s m args meth c) (h : ri_ldc G M idx st mem = some x) (hd : decode (ri_by M) pc = .ok (.ldc idx, x.1)) (hP : va_P D (ri_cls G) (ri_w ρ sa (ri_aty G) tyc ad mem) H) (hD : va_D A (ri_w ρ sa (ri_aty G) tyc ad mem)) (hS : va_S A s.heap H locs) (hok : ri_okM mem.length mem) (hst : ∀ t ∈ st, ri_ok mem.length t)
    (kk : ri_KK p l e R s m args below meth c cells slots Q G D tyc A ρ sa ad mem ls pc x) : W p l e R s m args below meth c H locs cells slots Q (F0 m pc ls (st.map (ri_cv ρ sa ad))) := by
  obtain ⟨⟨hx, hb, hml, hown, hin⟩, hM, hcl, hlk, hts, hK, hA, hstr⟩ := hC
  unfold ri_ldc at h
  split at h
  · next a b tx hcp =>
    cases h
    have hlink := ri_cp_s hlk hM hcp
    have k1 := kk ad H locs ri_ag_rf hP hD hS hok (Nat.le_refl _) (fun z hz => by
      rcases List.mem_cons.mp hz with rfl | hz
      · rw [ri_ci_eq]; trivial
      · exact hst z hz)
    rw [List.map_cons, ri_ci_eq] at k1
    exact lv_ldc hx hb hown (hts _ hlink) hd k1
  · next a b tx hcp =>
    cases h
    have hlink := ri_cp_s hlk hM hcp
    have k1 := kk ad H locs ri_ag_rf hP hD hS hok (Nat.le_refl _) (fun z hz => by
      rcases List.mem_cons.mp hz with rfl | hz
      · trivial
      · exact hst z hz)
    exact va_ldcS hx hb hown (hstr _ hlink) hd k1
  · cases h
theorem ri_ldc2_W (hC : ri_Ctx ALL STR sa G M D tyc A p s m args meth c) (h : ri_ldc2 G M idx st mem = some x) (hd : decode (ri_by M) pc = .ok (.ldc2_w idx, x.1)) (hP : va_P D (ri_cls G) (ri_w ρ sa (ri_aty G) tyc ad mem) H) (hD : va_D A (ri_w ρ sa (ri_aty G) tyc ad mem)) (hS : va_S A s.heap H locs) (hok : ri_okM mem.length mem) (hst : ∀ t ∈ st, ri_ok mem.length t)
    (kk : ri_KK p l e R s m args below meth c cells slots Q G D tyc A ρ sa ad mem ls pc x) : W p l e R s m args below meth c H locs cells slots Q (F0 m pc ls (st.map (ri_cv ρ sa ad))) := by
  obtain ⟨⟨hx, hb, hml, hown, hin⟩, hM, hcl, hlk, hts, hK, hA, hstr⟩ := hC
  unfold ri_ldc2 at h
  split at h
  · next a b tx hcp =>
    cases h
    have hlink := ri_cp_s hlk hM hcp
    have k1 := kk ad H locs ri_ag_rf hP hD hS hok (Nat.le_refl _) (fun z hz => by
      rcases List.mem_cons.mp hz with rfl | hz
      · rw [ri_cl_eq]; trivial
      · exact hst z hz)
    rw [List.map_cons, ri_cl_eq] at k1
    exact lv_ldc2 hx hb hown (hts _ hlink) hd k1
  · cases h
theorem ri_P_ext {cl : List vw_C} {ws : va_W} {q a n : Nat} {cA : ClassId} {f g : Nat → Int32} (h : va_P D cl (ws.set q (a, .inl (cA, n, .inl f))) H) (e : ∀ j, j < n → f j = g j) : va_P D cl (ws.set q (a, .inl (cA, n, .inl g))) H := by
  intro k z hk
  have hc : vp_cell cA (n, .inl f) = vp_cell cA (n, .inl g) := by
    show arrV cA n (fun j => .int (f j)) = arrV cA n (fun j => .int (g j))
    unfold arrV
    have e1 : (Array.ofFn (n := n) fun j => Value.int (f j.val)) = Array.ofFn (n := n) fun j => Value.int (g j.val) := by
      congr 1
      funext j
      rw [e j.val j.isLt]
    rw [e1]
  by_cases hq : q = k
  · subst hq
    have hl : q < ws.length := by
      have := (List.getElem?_eq_some_iff.mp hk).1
      simpa using this
    rw [List.getElem?_set_self hl] at hk
    cases hk
    have h1 := h q (a, .inl (cA, n, .inl f)) (List.getElem?_set_self hl)
    show H[a]? = some (vp_cell cA (n, .inl g))
    rw [← hc]
    exact h1
  · refine h k z ?_
    rw [List.getElem?_set_ne hq] at hk ⊢
    exact hk
theorem ri_sum4 {r : List Jvm.Term} (h : r.length ≤ 4) : ((r.map (ri_cv ρ sa ad)).map fun v => v.category).sum ≤ 8 := by
  have key : ∀ r : List Jvm.Term, ((r.map (ri_cv ρ sa ad)).map fun v => v.category).sum ≤ 2 * r.length := by
    intro r
    induction r with
    | nil => simp
    | cons a r ih =>
      simp only [List.map_cons, List.sum_cons, List.length_cons]
      rcases lv_cat (ri_cv ρ sa ad a) with h1 | h1 <;> omega
  have := key r
  omega
theorem ri_acpy_W (hC : ri_Ctx ALL STR sa G M D tyc A p s m args meth c) (hlk : Jvm.Cond.methodLink (ri_own M) idx arraycopyName ∈ ALL ∧ Jvm.Cond.native arraycopyName ∈ ALL ∧ Jvm.Cond.static arraycopyName ∈ ALL ∧ Jvm.Cond.initialized "java/lang/System" ∈ ALL) (h : ri_acpy G st mem = some x) (hd : decode (ri_by M) pc = .ok (.invokestatic idx, x.1)) (hP : va_P D (ri_cls G) (ri_w ρ sa (ri_aty G) tyc ad mem) H) (hD : va_D A (ri_w ρ sa (ri_aty G) tyc ad mem)) (hS : va_S A s.heap H locs) (hok : ri_okM mem.length mem) (hst : ∀ t ∈ st, ri_ok mem.length t)
    (hls : ls.size = ri_mx M) (hR1 : 1 ≤ R.frames) (hR2 : 100 ≤ R.locals)
    (kk : ri_KK p l e R s m args below meth c cells slots Q G D tyc A ρ sa ad mem ls pc x) : W p l e R s m args below meth c H locs cells slots Q (F0 m pc ls (st.map (ri_cv ρ sa ad))) := by
  obtain ⟨⟨hx, hb, hml, hown, hin⟩, hM, hcl, -, hts, hK, hA, hstr⟩ := hC
  unfold ri_acpy at h
  split at h
  · next n dp k1 sp k0 r =>
    split at h
    · next t0 n0 d0 o0 t1 n1 d1 o1 hm0 hm1 =>
      split at h
      · next hk =>
        cases h
        obtain ⟨hty, rfl, rfl, rfl, rfl, hn0, rfl, hr⟩ := hk
        have hw0 := ri_w_get (ρ := ρ) (sa := sa) (aty := ri_aty G) (tyc := tyc) (ad := ad) hm0
        have hw1 := ri_w_get (ρ := ρ) (sa := sa) (aty := ri_aty G) (tyc := tyc) (ad := ad) hm1
        rw [ri_ce_int hty] at hw0 hw1
        have hsum := ri_sum4 (ρ := ρ) (sa := sa) (ad := ad) hr
        refine va_copyi (ty := .int) hx hb (hml.trans hls.symm) hown (hts _ hlk.1) (hts _ hlk.2.1) (hts _ hlk.2.2.1) (hts _ hlk.2.2.2) hK hP hD hS k0 k1 t1 t1 hw0 hw1 (ri_tys_get hty) (ri_tys_get hty) rfl (by decide) (by decide) hn0 (by show 0 + _ ≤ _; omega) (by show 0 + _ ≤ _; omega) (fun _ _ => rfl) hR1 (Nat.le_trans (Nat.add_le_add hsum (show nativeFrameWords "java/lang/System" "arraycopy" 5 + 11 ≤ 92 by decide)) hR2) hd (fun H1 locs1 hP1 hD1 hS1 => ?_)
        have e9 := ri_w_set (ρ := ρ) (sa := sa) (aty := ri_aty G) (tyc := tyc) (ad := ad) (mem := mem) (k := k1) (e := .inr (t1, n.toNatClampNeg, d0, o0))
        rw [ri_ce_int hty] at e9
        have hP2 := ri_P_ext (g := fun j => ri_gI (ri_cv ρ sa ad (ri_look d0 o0 j))) hP1 (fun j hj => by
          unfold va_cpy
          rw [if_pos ⟨Nat.zero_le _, by show j < 0 + _; omega⟩]
          show ri_gI (ri_cv ρ sa ad (ri_look d0 o0 (0 + (j - 0)))) = _
          rw [Nat.zero_add, Nat.sub_zero])
        have hD2 : va_D A ((ri_w ρ sa (ri_aty G) tyc ad mem).set k1 (ad k1, .inl (tyc t1, n.toNatClampNeg, .inl (fun j => ri_gI (ri_cv ρ sa ad (ri_look d0 o0 j)))))) := by
          exact va_D.set hD hw1
        rw [e9] at hP2 hD2
        have hokc := hok _ (List.mem_of_getElem? hm0)
        refine kk ad H1 locs1 ri_ag_rf hP2 hD2 hS1 ?_ ?_ ?_
        · show ri_okM (mem.set k1 _).length _
          rw [List.length_set]
          exact ri_okM_set hok hokc
        · show mem.length ≤ (mem.set k1 _).length
          rw [List.length_set]; exact Nat.le_refl _
        · intro z hz
          show ri_ok (mem.set k1 _).length z
          rw [List.length_set]
          exact hst z (List.mem_cons_of_mem _ (List.mem_cons_of_mem _ (List.mem_cons_of_mem _ (List.mem_cons_of_mem _ (List.mem_cons_of_mem _ hz)))))
      · cases h
    · cases h
  · cases h
end RIW1
end RIW
end
section
/-! RI: the run: forks, jumps, calls, answers, exceptions -/
section RIR
def ri_eqT : Jvm.Term → Jvm.Term → Bool
  | .arg i, .arg j => i == j
  | .int x, .int y => x == y
  | .long x, .long y => x == y
  | .add a b, .add a2 b2 => ri_eqT a a2 && ri_eqT b b2
  | .sub a b, .sub a2 b2 => ri_eqT a a2 && ri_eqT b b2
  | .mul a b, .mul a2 b2 => ri_eqT a a2 && ri_eqT b b2
  | .div a b, .div a2 b2 => ri_eqT a a2 && ri_eqT b b2
  | .rem a b, .rem a2 b2 => ri_eqT a a2 && ri_eqT b b2
  | .op2 o a b, .op2 o2 a2 b2 => decide (o = o2) && (ri_eqT a a2 && ri_eqT b b2)
  | .op1 o a, .op1 o2 a2 => decide (o = o2) && ri_eqT a a2
  | _, _ => false
theorem ri_eqT_s : ∀ (a b : Jvm.Term), ri_eqT a b = true → a = b := by
  intro a
  induction a with
  | arg i => intro b h; cases b <;> simp [ri_eqT] at h; rw [h]
  | int i => intro b h; cases b <;> simp [ri_eqT] at h; rw [h]
  | long i => intro b h; cases b <;> simp [ri_eqT] at h; rw [h]
  | add x y hx hy => intro b h; cases b <;> simp [ri_eqT] at h; rw [hx _ h.1, hy _ h.2]
  | sub x y hx hy => intro b h; cases b <;> simp [ri_eqT] at h; rw [hx _ h.1, hy _ h.2]
  | mul x y hx hy => intro b h; cases b <;> simp [ri_eqT] at h; rw [hx _ h.1, hy _ h.2]
  | div x y hx hy => intro b h; cases b <;> simp [ri_eqT] at h; rw [hx _ h.1, hy _ h.2]
  | rem x y hx hy => intro b h; cases b <;> simp [ri_eqT] at h; rw [hx _ h.1, hy _ h.2]
  | op2 o x y hx hy => intro b h; cases b <;> simp [ri_eqT] at h; rw [h.1, hx _ h.2.1, hy _ h.2.2]
  | op1 o x hx => intro b h; cases b <;> simp [ri_eqT] at h; rw [h.1, hx _ h.2]
  | _ => intro b h; cases b <;> simp [ri_eqT] at h
/-- is it known already? -/
def ri_dec (cs : List ri_Cd) (k : Nat) (a b : Jvm.Term) : Option Bool := match a, b with
  | .int x, .int y => some (match k with
    | 0 => decide (x = y)
    | _ => decide (x < y))
  | _, _ => (cs.find? (fun q => q.1 == k && (ri_eqT q.2.1 a && ri_eqT q.2.2.1 b))).map (fun q => q.2.2.2)
theorem ri_dec_s {ρ : Nat → Int32} {cs : List ri_Cd} {k : Nat} {a b : Jvm.Term} {r : Bool} (hsat : ∀ q ∈ cs, ri_sat ρ q) (h : ri_dec cs k a b = some r) : r = true ↔ ri_rel k (ri_iv ρ a) (ri_iv ρ b) := by
  have gen : (cs.find? (fun q => q.1 == k && (ri_eqT q.2.1 a && ri_eqT q.2.2.1 b))).map (fun q => q.2.2.2) = some r → (r = true ↔ ri_rel k (ri_iv ρ a) (ri_iv ρ b)) := by
    intro h
    obtain ⟨q, hq, rfl⟩ := Option.map_eq_some_iff.mp h
    have h1 := hsat q (List.mem_of_find?_eq_some hq)
    have h2 := List.find?_some hq
    simp only [Bool.and_eq_true, beq_iff_eq] at h2
    have e1 := ri_eqT_s _ _ h2.2.1
    have e2 := ri_eqT_s _ _ h2.2.2
    unfold ri_sat at h1
    rw [h2.1, e1, e2] at h1
    exact h1
  unfold ri_dec at h
  split at h
  · next x y =>
    cases h
    show _ ↔ ri_rel k x y
    unfold ri_rel
    split <;> simp
  · exact gen h
def ri_both (a b : Option ri_Rs) : Option ri_Rs := match a, b with
  | some (l1, c1, s1, o1), some (l2, c2, s2, o2) => some (l1 ++ l2, max c1 c2, max s1 s2, o1 ++ o2)
  | _, _ => none
/-- one result among another's -/
def ri_le (r1 r : ri_Rs) : Prop := (∀ x ∈ r1.1, x ∈ r.1) ∧ r1.2.1 ≤ r.2.1 ∧ r1.2.2.1 ≤ r.2.2.1 ∧ ∀ o ∈ r1.2.2.2, o ∈ r.2.2.2
theorem ri_both_s {a b : Option ri_Rs} {r : ri_Rs} (h : ri_both a b = some r) : ∃ ra rb, a = some ra ∧ b = some rb ∧ ri_le ra r ∧ ri_le rb r := by
  unfold ri_both at h
  split at h
  · next l1 c1 s1 o1 l2 c2 s2 o2 =>
    cases h
    exact ⟨_, _, rfl, rfl, ⟨fun x hx => List.mem_append_left _ hx, Nat.le_max_left _ _, Nat.le_max_left _ _, fun x hx => List.mem_append_left _ hx⟩, ⟨fun x hx => List.mem_append_right _ hx, Nat.le_max_right _ _, Nat.le_max_right _ _, fun x hx => List.mem_append_right _ hx⟩⟩
  · cases h
def ri_seq (k : ri_Lf → Option ri_Rs) : List ri_Lf → Option ri_Rs
  | [] => some ([], 0, 0, [])
  | x :: l => ri_both (k x) (ri_seq k l)
theorem ri_le_tr {a b c : ri_Rs} (h1 : ri_le a b) (h2 : ri_le b c) : ri_le a c := ⟨fun x hx => h2.1 x (h1.1 x hx), Nat.le_trans h1.2.1 h2.2.1, Nat.le_trans h1.2.2.1 h2.2.2.1, fun o ho => h2.2.2.2 o (h1.2.2.2 o ho)⟩
theorem ri_seq_s {k : ri_Lf → Option ri_Rs} : ∀ (l : List ri_Lf) {r : ri_Rs}, ri_seq k l = some r → ∀ x ∈ l, ∃ rx, k x = some rx ∧ ri_le rx r
  | [], _, _, x, hx => by cases hx
  | y :: l, r, h, x, hx => by
    obtain ⟨ra, rb, h1, h2, h3, h4⟩ := ri_both_s (show ri_both (k y) (ri_seq k l) = some r from h)
    rcases List.mem_cons.mp hx with rfl | hx
    · exact ⟨ra, h1, h3⟩
    · obtain ⟨rx, g1, g2⟩ := ri_seq_s l h2 x hx
      exact ⟨rx, g1, ri_le_tr g2 h4⟩
/-- a fork: (sort, a, b, v): T where (a sort b) is v, else F -/
def ri_br (cs : List ri_Cd) (q : ri_Cd) (T F : List ri_Cd → Option ri_Rs) : Option ri_Rs := match ri_dec cs q.1 q.2.1 q.2.2.1 with
  | some r => if r = q.2.2.2 then T cs else F cs
  | none => ri_both (T (q :: cs)) (F ((q.1, q.2.1, q.2.2.1, !q.2.2.2) :: cs))
theorem ri_br_s {ρ : Nat → Int32} {cs : List ri_Cd} {q : ri_Cd} {T F : List ri_Cd → Option ri_Rs} {r : ri_Rs} (hsat : ∀ q ∈ cs, ri_sat ρ q) (h : ri_br cs q T F = some r) :
    (ri_sat ρ q ∧ ∃ cs' r1, T cs' = some r1 ∧ (∀ q ∈ cs', ri_sat ρ q) ∧ ri_le r1 r) ∨ (¬ ri_sat ρ q ∧ ∃ cs' r1, F cs' = some r1 ∧ (∀ q ∈ cs', ri_sat ρ q) ∧ ri_le r1 r) := by
  unfold ri_br at h
  have rf : ri_le r r := ⟨fun _ h => h, Nat.le_refl _, Nat.le_refl _, fun _ h => h⟩
  split at h
  · next v hv =>
    have h1 := ri_dec_s hsat hv
    split at h
    · next e => exact Or.inl ⟨by unfold ri_sat; rw [← e]; exact h1, cs, r, h, hsat, rf⟩
    · next e =>
      refine Or.inr ⟨fun hs => e ?_, cs, r, h, hsat, rf⟩
      unfold ri_sat at hs
      rw [Bool.eq_iff_iff]
      exact h1.trans hs.symm
  · obtain ⟨ra, rb, h1, h2, h3, h4⟩ := ri_both_s h
    by_cases hq : ri_sat ρ q
    · exact Or.inl ⟨hq, _, ra, h1, fun z hz => by
        rcases List.mem_cons.mp hz with rfl | hz
        · exact hq
        · exact hsat z hz, h3⟩
    · refine Or.inr ⟨hq, _, rb, h2, fun z hz => ?_, h4⟩
      rcases List.mem_cons.mp hz with rfl | hz
      · unfold ri_sat at hq ⊢
        cases hv : q.2.2.2 <;> simp [hv] at hq ⊢ <;> exact hq
      · exact hsat z hz
def ri_tg (pc : Nat) (off : Int) : Option Nat := match (pc : Int) + off with
  | .ofNat n => some n
  | .negSucc _ => none
theorem ri_tg_s {pc t : Nat} {off : Int} (h : ri_tg pc off = some t) : (pc : Int) + off = (t : Int) := by
  unfold ri_tg at h
  split at h
  · next n e => cases h; rw [e]; rfl
  · cases h
def ri_cnd (c : ClassFile.Cond) (a b : Jvm.Term) : ri_Cd := match c with
  | .eq => (0, a, b, true)
  | .ne => (0, a, b, false)
  | .lt => (1, a, b, true)
  | .ge => (1, a, b, false)
  | .gt => (1, b, a, true)
  | .le => (1, b, a, false)
/-- a switch, as a row of forks -/
def ri_chain (x : Jvm.Term) (pc : Nat) (T : Nat → List ri_Cd → Option ri_Rs) (dflt : Int) : List (Int × Int) → List ri_Cd → Option ri_Rs
  | [], cs => match ri_tg pc dflt with
    | some t => T t cs
    | none => none
  | (v, off) :: l, cs => ri_br cs (0, x, ri_ci (Int32.ofInt v), true) (fun cs' => match ri_tg pc off with
    | some t => T t cs'
    | none => none) (fun cs' => ri_chain x pc T dflt l cs')
abbrev ri_K : Type := Nat → List (Nat × Jvm.Term) → List Jvm.Term → List ri_Cd → ri_Me → Option ri_Rs
abbrev ri_Call : Type := Nat → List Jvm.Term → List ri_Cd → ri_Me → Option ri_Rs
/-- more cells, more obligations ahead of what follows -/
def ri_more (c s : Nat) (o : List ri_Ob) (r : Option ri_Rs) : Option ri_Rs := match r with
  | some (l2, c2, s2, o2) => some (l2, c + c2, s + s2, o ++ o2)
  | none => none
theorem ri_more_s {c s : Nat} {o : List ri_Ob} {r : Option ri_Rs} {x : ri_Rs} (h : ri_more c s o r = some x) : ∃ r2, r = some r2 ∧ x.1 = r2.1 ∧ x.2.1 = c + r2.2.1 ∧ x.2.2.1 = s + r2.2.2.1 ∧ x.2.2.2 = o ++ r2.2.2.2 := by
  unfold ri_more at h
  split at h
  · cases h; exact ⟨_, rfl, rfl, rfl, rfl, rfl⟩
  · cases h
/-- behind a call -/
def ri_after (K : ri_K) (pc : Nat) (lv : List (Nat × Jvm.Term)) (rest : List Jvm.Term) (x : ri_Lf) : Option ri_Rs := match x.2.2 with
  | .inl none => K (pc + 3) lv rest x.1 x.2.1
  | .inl (some t) => K (pc + 3) lv (t :: rest) x.1 x.2.1
  | .inr E => some ([(x.1, x.2.1, .inr E)], 0, 0, [])
/-- a receiver of that class -/
def ri_recv (G : ri_Tb) (cls : String) (mem : ri_Me) : List Jvm.Term → Bool
  | .index k :: _ => match mem[k]? with
    | some (.inl (ci, _)) => match (ri_cls G)[ci]? with
      | some r => r.1 == cls
      | none => false
    | _ => false
  | _ => false
def ri_nn (sort n : Nat) : Nat := if sort = 1 then n else n + 1
/-- a call: sort 0 of an object, 1 static, 2 a constructor -/
def ri_inv (G : ri_Tb) (call : ri_Call) (M : ri_Mt) (K : ri_K) (sort pc idx : Nat) (lv : List (Nat × Jvm.Term)) (st : List Jvm.Term) (cs : List ri_Cd) (mem : ri_Me) : Option ri_Rs := match ri_cp G M idx with
  | some (kd, mi, n, _) =>
    if kd = 20 + sort ∨ kd = 30 + sort then (match (ri_mts G)[mi]? with
      | some M' =>
        if ri_nn sort n ≤ st.length ∧ (st.drop (ri_nn sort n)).length ≤ 4 ∧ (sort = 1 ∨ ri_recv G (ri_nm M').cls mem (st.take (ri_nn sort n)).reverse = true) then (match call mi (st.take (ri_nn sort n)).reverse cs mem with
          | some (L, mc, ms, ob) => ri_more mc ms ob (ri_seq (ri_after K pc lv (st.drop (ri_nn sort n))) L)
          | none => none) else none
      | none => none)
    else if kd = 7 then (match st with
      | .index _ :: r => if sort = 2 ∧ r.length ≤ 4 then K (pc + 3) lv r cs mem else none
      | _ => none)
    else if kd = 10 then (match st with
      | y :: x :: r => if sort = 1 ∧ ri_k x = 0 ∧ ri_k y = 0 ∧ r.length ≤ 4 then ri_br cs (1, x, y, true) (fun cs' => K (pc + 3) lv (y :: r) cs' mem) (fun cs' => K (pc + 3) lv (x :: r) cs' mem) else none
      | _ => none)
    else if kd = 11 then (match st with
      | y :: x :: r => if sort = 1 ∧ ri_k x = 0 ∧ ri_k y = 0 ∧ r.length ≤ 4 then ri_br cs (1, y, x, true) (fun cs' => K (pc + 3) lv (y :: r) cs' mem) (fun cs' => K (pc + 3) lv (x :: r) cs' mem) else none
      | _ => none)
    else none
  | none => none
/-- new X(text), thrown -/
def ri_thr (G : ri_Tb) (M : ri_Mt) (pc ik : Nat) (st : List Jvm.Term) (cs : List ri_Cd) (mem : ri_Me) : Option ri_Rs := match ri_cp G M ik, (ri_co M)[pc + 3]?, (ri_co M)[pc + 4]?, (ri_co M)[pc + 6]?, (ri_co M)[pc + 9]? with
  | some (5, _, _, E), some (some (.dup, 1)), some (some (.ldc is, 2)), some (some (.invokespecial ic, 3)), some (some (.athrow, 1)) => match ri_cp G M is, ri_cp G M ic with
    | some (9, _, _, _), some (13, _, _, E2) => if E2 = E ∧ st.length ≤ 4 then some ([(cs, mem, .inr E)], 1, 6, []) else none
    | _, _ => none
  | _, _, _, _, _ => none
def ri_ans (M : ri_Mt) (st : List Jvm.Term) (cs : List ri_Cd) (mem : ri_Me) (ok : Jvm.Term → Option FieldType → Bool) : Option ri_Rs := match st with
  | [t] => if ok t (ri_rt M) = true then some ([(cs, mem, .inl (some t))], 0, 0, []) else none
  | _ => none
def ri_okI (t : Jvm.Term) : Option FieldType → Bool
  | some .int => ri_k t == 0
  | some .boolean => ri_fit .boolean t
  | _ => false
def ri_okA (t : Jvm.Term) : Option FieldType → Bool
  | some (.object _) => ri_k t == 2 || ri_k t == 3
  | some (.array _) => ri_k t == 2 || ri_k t == 3
  | _ => false
def ri_okD (t : Jvm.Term) : Option FieldType → Bool
  | some .double => ri_k t == 4
  | _ => false
def ri_okF (t : Jvm.Term) : Option FieldType → Bool
  | some .float => ri_k t == 5
  | _ => false
def ri_ctl (G : ri_Tb) (call : ri_Call) (M : ri_Mt) (K : ri_K) (pc : Nat) (i : Instr) (len : Nat) (lv : List (Nat × Jvm.Term)) (st : List Jvm.Term) (cs : List ri_Cd) (mem : ri_Me) : Option ri_Rs := match i with
  | .goto off => match ri_tg pc off with
    | some t => if len = 3 then K t lv st cs mem else none
    | none => none
  | .ifCond c off => match st, ri_tg pc off with
    | a :: r, some t => if ri_k a = 0 ∧ len = 3 then ri_br cs (ri_cnd c a (.int 0)) (fun cs' => K t lv r cs' mem) (fun cs' => K (pc + 3) lv r cs' mem) else none
    | _, _ => none
  | .if_icmp c off => match st, ri_tg pc off with
    | b :: a :: r, some t => if ri_k a = 0 ∧ ri_k b = 0 ∧ len = 3 then ri_br cs (ri_cnd c a b) (fun cs' => K t lv r cs' mem) (fun cs' => K (pc + 3) lv r cs' mem) else none
    | _, _ => none
  | .ifnull off => match st, ri_tg pc off with
    | a :: r, some t => if len = 3 then (if ri_k a = 3 then K t lv r cs mem else if ri_k a = 2 then K (pc + 3) lv r cs mem else none) else none
    | _, _ => none
  | .ifnonnull off => match st, ri_tg pc off with
    | a :: r, some t => if len = 3 then (if ri_k a = 2 then K t lv r cs mem else if ri_k a = 3 then K (pc + 3) lv r cs mem else none) else none
    | _, _ => none
  | .tableswitch d lo hi offs => match st with
    | x :: r => if ri_k x = 0 ∧ hi = lo + (offs.size : Int) - 1 ∧ -2147483648 ≤ lo ∧ hi < 2147483648 then ri_chain x pc (fun t cs' => K t lv r cs' mem) d (offs.toList.mapIdx (fun j o => (lo + (j : Int), o))) cs else none
    | _ => none
  | .ireturn => if len = 1 then ri_ans M st cs mem ri_okI else none
  | .areturn => if len = 1 then ri_ans M st cs mem ri_okA else none
  | .dreturn => if len = 1 then ri_ans M st cs mem ri_okD else none
  | .freturn => if len = 1 then ri_ans M st cs mem ri_okF else none
  | .return_ => match st, ri_rt M with
    | [], none => if len = 1 then some ([(cs, mem, .inl none)], 0, 0, []) else none
    | _, _ => none
  | .new ik => if len = 3 then ri_thr G M pc ik st cs mem else none
  | .invokevirtual idx => if len = 3 then ri_inv G call M K 0 pc idx lv st cs mem else none
  | .invokestatic idx => if len = 3 then ri_inv G call M K 1 pc idx lv st cs mem else none
  | .invokespecial idx => if len = 3 then ri_inv G call M K 2 pc idx lv st cs mem else none
  | _ => none
/-- one step, and what follows -/
def ri_one (G : ri_Tb) (call : ri_Call) (M : ri_Mt) (K : ri_K) (pc : Nat) (lv : List (Nat × Jvm.Term)) (st : List Jvm.Term) (cs : List ri_Cd) (mem : ri_Me) : Option ri_Rs := match (ri_co M)[pc]? with
  | some (some (i, len)) => match ri_pure (ri_mx M) i lv st with
    | some (len', lv', st') => if len' = len then K (pc + len) lv' st' cs mem else none
    | none => match ri_heap G M cs i st mem with
      | some x => if x.1 = len then ri_more x.2.2.2.1 x.2.2.2.2.1 x.2.2.2.2.2 (K (pc + len) lv x.2.1 cs x.2.2.1) else none
      | none => ri_ctl G call M K pc i len lv st cs mem
  | _ => none
noncomputable def ri_run (G : ri_Tb) (call : ri_Call) (M : ri_Mt) (f : Nat) : ri_K := Nat.rec (motive := fun _ => ri_K) (fun _ _ _ _ _ => none) (fun _ K pc lv st cs mem => ri_one G call M K pc lv st cs mem) f
theorem ri_run_0 {G : ri_Tb} {call : ri_Call} {M : ri_Mt} {pc : Nat} {lv : List (Nat × Jvm.Term)} {st : List Jvm.Term} {cs : List ri_Cd} {mem : ri_Me} : ri_run G call M 0 pc lv st cs mem = none := rfl
theorem ri_run_S {G : ri_Tb} {call : ri_Call} {M : ri_Mt} {f pc : Nat} {lv : List (Nat × Jvm.Term)} {st : List Jvm.Term} {cs : List ri_Cd} {mem : ri_Me} : ri_run G call M (f + 1) pc lv st cs mem = ri_one G call M (ri_run G call M f) pc lv st cs mem := rfl
/-- the locals with which a method begins -/
def ri_args : Nat → List Jvm.Term → List (Nat × Jvm.Term)
  | _, [] => []
  | i, t :: ts => (i, t) :: ri_args (if ri_wide t = true then i + 2 else i + 1) ts
noncomputable def ri_call (G : ri_Tb) (fuel d : Nat) : ri_Call := Nat.rec (motive := fun _ => ri_Call) (fun _ _ _ _ => none) (fun _ C mi args cs mem => match (ri_mts G)[mi]? with
    | some M => if (args.map (fun t => if ri_wide t = true then 2 else 1)).sum ≤ ri_mx M then ri_run G C M fuel 0 (ri_args 0 args) [] cs mem else none
    | none => none) d
theorem ri_call_0 {G : ri_Tb} {fuel mi : Nat} {args : List Jvm.Term} {cs : List ri_Cd} {mem : ri_Me} : ri_call G fuel 0 mi args cs mem = none := rfl
theorem ri_call_S {G : ri_Tb} {fuel d mi : Nat} {args : List Jvm.Term} {cs : List ri_Cd} {mem : ri_Me} : ri_call G fuel (d + 1) mi args cs mem = (match (ri_mts G)[mi]? with
    | some M => if (args.map (fun t => if ri_wide t = true then 2 else 1)).sum ≤ ri_mx M then ri_run G (ri_call G fuel d) M fuel 0 (ri_args 0 args) [] cs mem else none
    | none => none) := rfl
end RIR
end
section
/-! RI: the run is sound -/
section RIS
def ri_warm : Jvm.Cond → Bool
  | .fieldLinkNest _ _ _ _ _ _ => true
  | .methodLinkNest _ _ _ _ => true
  | .castable _ _ => true
  | .declares _ => true
  | w => goodWord w
theorem ri_warm_s {w : Jvm.Cond} {s U : State} (hw : ri_warm w = true) (hW : s.WarmedH U.vm) (h : ∀ a : Array Value, w.before a s = true) : ∀ a : Array Value, w.before a U = true := by
  intro a
  by_cases hg : goodWord w = true
  · exact word_at hW (good_of_word hg) (h #[])
  · cases w <;> first
      | exact va_Nw.use rfl (va_Nw.warmF hW (h #[]))
      | exact va_Nw.use rfl (va_Nw.warmM hW (h #[]))
      | exact va_Nw.use rfl (va_Nw.warmC hW (h #[]))
      | exact va_Nw.use rfl (va_Nw.warmD hW (h #[]))
      | exact absurd hw hg
/-- what holds of the tables at a state -/
def ri_St (ALL : List Jvm.Cond) (STR : List (String × Nat × String)) (G : ri_Tb) (D : va_G) (tyc : Nat → ClassId) (sa : String → Nat → Nat) (A : Nat → Prop) (U : State) : Prop :=
  (∀ w ∈ ALL, ∀ a : Array Value, w.before a U = true) ∧ va_K D (ri_cls G) (ri_tys (ri_aty G) tyc) U ∧ (∀ q ∈ STR, vk_R q.1 q.2.1 q.2.2 (sa q.1 q.2.1) U) ∧ vx_Zq Bundle.tN "UNASSIGNED_STACK" Bundle.steD A U U.heap ∧ vx_Zq Bundle.tN "SUPPRESSED_SENTINEL" Bundle.listD A U U.heap
theorem ri_St_go {ALL : List Jvm.Cond} {STR : List (String × Nat × String)} {G : ri_Tb} {D : va_G} {tyc : Nat → ClassId} {sa : String → Nat → Nat} {A B : Nat → Prop} {s U : State} (hwm : ∀ w ∈ ALL, ri_warm w = true) (h : ri_St ALL STR G D tyc sa A s) (hW : s.WarmedH U.vm)
    (hk : ∀ q : Nat, q < s.heap.size → ¬ A q → U.heap[q]? = s.heap[q]?) (hAB : ∀ q, B q → A q) : ri_St ALL STR G D tyc sa B U :=
  ⟨fun w hw => ri_warm_s (hwm w hw) hW (h.1 w hw), va_K.moved hW.alike h.2.1, fun q hq => vk_R.warm hW (h.2.2.1 q hq), vx_Zq.narrow (vx_Zq.moved hW.alike (vx_Zq.kept h.2.2.2.1 hk)) hAB, vx_Zq.narrow (vx_Zq.moved hW.alike (vx_Zq.kept h.2.2.2.2 hk)) hAB⟩
section RIS1
variable (G : ri_Tb) (D : va_G) (tyc : Nat → ClassId) (A : Nat → Prop) (ρ : Nat → Int32) (sa : String → Nat → Nat) (n0 : Nat) (ad0 : Nat → Nat)
/-- a way out of a method, at a state -/
def ri_At (lf : ri_Lf) (ad : Nat → Nat) (st t : State) : Prop := ri_ag n0 ad0 ad ∧ (∀ q ∈ lf.1, ri_sat ρ q) ∧ n0 ≤ lf.2.1.length ∧ ri_okM lf.2.1.length lf.2.1 ∧ va_P D (ri_cls G) (ri_w ρ sa (ri_aty G) tyc ad lf.2.1) t.heap ∧ va_D A (ri_w ρ sa (ri_aty G) tyc ad lf.2.1) ∧ va_F A st t
def ri_Qc (LT : List ri_Lf) : Array Value → State → Outcome → State → Prop := fun _ st o t => ∃ lf ∈ LT, ∃ (tm : Option Jvm.Term) (ad : Nat → Nat), lf.2.2 = .inl tm ∧ o = .returned (tm.map (ri_cv ρ sa ad)) ∧ (∀ z, tm = some z → ri_ok lf.2.1.length z) ∧ ri_At G D tyc A ρ sa n0 ad0 lf ad st t
def ri_XC (LT : List ri_Lf) : String → State → State → Prop := fun E st t => ∃ lf ∈ LT, ∃ (ad : Nat → Nat), lf.2.2 = .inr E ∧ ri_At G D tyc A ρ sa n0 ad0 lf ad st t
end RIS1
def ri_Pc (ALL : List Jvm.Cond) (STR : List (String × Nat × String)) (G : ri_Tb) (D : va_G) (tyc : Nat → ClassId) (ρ : Nat → Int32) (sa : String → Nat → Nat) (ad : Nat → Nat) (sz : Nat) (args : List Jvm.Term) (mem : ri_Me) : Array Value → State → Prop := fun v U =>
  v = (args.map (ri_cv ρ sa ad)).toArray ∧ U.heap.size = sz ∧ va_P D (ri_cls G) (ri_w ρ sa (ri_aty G) tyc ad mem) U.heap ∧ va_D (fun _ => True) (ri_w ρ sa (ri_aty G) tyc ad mem) ∧ ri_St ALL STR G D tyc sa (va_A (ri_w ρ sa (ri_aty G) tyc ad mem) sz) U
theorem ri_Pc_blind {ALL : List Jvm.Cond} {STR : List (String × Nat × String)} {G : ri_Tb} {D : va_G} {tyc : Nat → ClassId} {ρ : Nat → Int32} {sa : String → Nat → Nat} {ad : Nat → Nat} {sz : Nat} {args : List Jvm.Term} {mem : ri_Me} (hwm : ∀ w ∈ ALL, ri_warm w = true) : FrameBlind (ri_Pc ALL STR G D tyc ρ sa ad sz args mem) := by
  intro a U g mk q
  obtain ⟨q1, q2, q3, q4, q5⟩ := q
  exact ⟨q1, q2, q3, q4, ri_St_go (U := U.calling g mk a) hwm q5 (State.WarmedH.refl U) (fun _ _ _ => rfl) (fun _ h => h)⟩
/-- the rooms: at depth d -/
def ri_rm (d LC mc ms : Nat) : Room := { frames := d + 5, cells := mc, slots := ms, locals := 150 + d * LC }
def ri_Con (l : Launch) (ALL : List Jvm.Cond) (STR : List (String × Nat × String)) (G : ri_Tb) (LC d : Nat) (mi : Nat) (args : List Jvm.Term) (cs : List ri_Cd) (mem : ri_Me) (rs : ri_Rs) : Prop :=
  ∀ M, (ri_mts G)[mi]? = some M → ∀ (D : va_G) (tyc : Nat → ClassId) (ρ : Nat → Int32) (sa : String → Nat → Nat) (ad : Nat → Nat) (sz : Nat), (∀ q ∈ cs, ri_sat ρ q) → ri_okM mem.length mem → (∀ t ∈ args, ri_ok mem.length t) → (∀ o ∈ rs.2.2.2, ri_obs ρ o) →
    vx_Met l (ri_nm M) [.code (ri_nm M) (ri_by M) (ri_mx M) (ri_rt M)] (ri_rm d LC rs.2.1 rs.2.2.1) (ri_Pc ALL STR G D tyc ρ sa ad sz args mem)
      (ri_Qc G D tyc (va_A (ri_w ρ sa (ri_aty G) tyc ad mem) sz) ρ sa mem.length ad rs.1) (ri_XC G D tyc (va_A (ri_w ρ sa (ri_aty G) tyc ad mem) sz) ρ sa mem.length ad rs.1) rs.2.1 rs.2.2.1 (va_A (ri_w ρ sa (ri_aty G) tyc ad mem) sz)
section RIS2
variable {p : Program} {l : Launch} {e : Env} {R : Room} {s : State} {m : MethodId} {args : Array Value} {below : List Frame} {meth : Method} {c : Code} {H : Heap} {locs : List Loc} {cells slots : Nat} {Q : State → Prop}
variable {mc ms : Nat} {free : Addr → Prop} {A : Nat → Prop} {H0 : Heap} {pc : Nat} {ls : Array Slot} {st0 rest : List Value}
/-- behind a call that answers or throws -/
theorem ri_use {Qa : State → Outcome → State → Prop} {XC : String → State → State → Prop} (hr : vx_Run p l e R s m args below meth c H locs cells slots mc ms (F0 m pc ls st0) rest Qa XC free)
    (kk : ∀ (v : Option Value) (st₀ t : State) (H1 : Heap) (L : List Loc), st₀.heap = H → t.heap = H1 → s.vm.Alike t.vm → (∀ q ∈ L, free q.base) → Qa st₀ (.returned v) t → W p l e R s m args below meth c H1 (locs ++ L) (cells + mc) (slots + ms) Q (F0 m (pc + 3) ls (v.toList ++ rest)))
    (kx : ∀ (q : Addr) (E : String) (ce : Cell) (st₀ t : State) (H1 : Heap) (L : List Loc), st₀.heap = H → t.heap = H1 → s.vm.Alike t.vm → (∀ q ∈ L, free q.base) → XC E st₀ t → H1[q]? = some ce → ce.vm = .none → s.vm.findClass E = some ce.cls → vx_W p l e R s m args below meth c H1 (locs ++ L) (cells + mc) (slots + ms) Q (F0 m pc ls rest) q) :
    W p l e R s m args below meth c H locs cells slots Q (F0 m pc ls st0) := by
  intro T hT X
  rcases hr T hT X with ⟨v, st₀, t, T', L, h0, X', hL, e1, e2, hq, st⟩ | ⟨q, st₀, t, T', L, E, ce, h0, X', hL, e1, e2, hq, hce, hcv, hcl, st⟩
  · obtain ⟨t2, a1, b1⟩ := kk v st₀ t T'.heap L h0 e1.symm (by rw [← e2]; exact X'.warmed.alike) hL hq T' rfl X'
    exact ⟨t2, st t2 a1, b1⟩
  · obtain ⟨t2, a1, b1⟩ := kx q E ce st₀ t T'.heap L h0 e1.symm (by rw [← e2]; exact X'.warmed.alike) hL hq (by rw [e1]; exact hce) hcv hcl T' rfl X'
    exact ⟨t2, st.trans a1, b1⟩
end RIS2
end RIS
end
section
/-! RI: forks, jumps, answers, exceptions and calls are sound, if what follows is -/
section RIX
/-- what holds of a method that is walked, for its end and its calls too -/
def ri_Cx (l : Launch) (ALL : List Jvm.Cond) (STR : List (String × Nat × String)) (sa : String → Nat → Nat) (G : ri_Tb) (M : ri_Mt) (D : va_G) (tyc : Nat → ClassId) (A : Nat → Prop) (p : Program) (s : State) (m : MethodId) (args : Array Value) (meth : Method) (c : Code) (R : Room) (LC d mcT msT : Nat) : Prop :=
  ri_Ctx ALL STR sa G M D tyc A p s m args meth c ∧ ri_St ALL STR G D tyc sa A s ∧ (∀ w ∈ ALL, ri_warm w = true) ∧ meth.sig.returnType = ri_rt M ∧ meth.locks = false ∧ (∀ x ∈ c.exceptionTable.toList, False) ∧ l.stackTraces = false ∧ R = ri_rm (d + 1) LC mcT msT ∧ (∀ i ∈ ri_mts G, 19 + ri_mx i ≤ LC) ∧ (∀ M2 ∈ ri_mts G, ri_own M2 = (ri_nm M2).cls ∧ Jvm.Cond.code (ri_nm M2) (ri_by M2) (ri_mx M2) (ri_rt M2) ∈ ALL ∧ goodWord (Jvm.Cond.code (ri_nm M2) (ri_by M2) (ri_mx M2) (ri_rt M2)) = true ∧ Jvm.Cond.initialized (ri_nm M2).cls ∈ ALL ∧ Bundle.fit (ri_nm M2).cls = true)
section RIX1
variable (p : Program) (l : Launch) (e : Env) (R : Room) (s : State) (m : MethodId) (args : Array Value) (below : List Frame) (meth : Method) (c : Code) (G : ri_Tb) (M : ri_Mt) (D : va_G) (tyc : Nat → ClassId) (A : Nat → Prop) (ρ : Nat → Int32) (sa : String → Nat → Nat) (n0 : Nat) (ad0 : Nat → Nat) (LT : List ri_Lf) (mcT msT : Nat)
/-- a place of the walk from which all goes to one of the ends -/
def ri_So (pc : Nat) (lv : List (Nat × Jvm.Term)) (st : List Jvm.Term) (cs : List ri_Cd) (mem : ri_Me) (rs : ri_Rs) : Prop :=
  ∀ (ad : Nat → Nat) (ls : Array Slot) (H : Heap) (locs : List Loc) (cells slots : Nat), ri_ag n0 ad0 ad → n0 ≤ mem.length → lv_has ls (ri_mx M) (ri_lc ρ sa ad lv) → va_P D (ri_cls G) (ri_w ρ sa (ri_aty G) tyc ad mem) H → va_D A (ri_w ρ sa (ri_aty G) tyc ad mem) → va_S A s.heap H locs → ri_okM mem.length mem → (∀ q ∈ lv, ri_ok mem.length q.2) → (∀ t ∈ st, ri_ok mem.length t) → (∀ q ∈ cs, ri_sat ρ q) → (∀ x ∈ rs.1, x ∈ LT) → cells + rs.2.1 ≤ mcT → slots + rs.2.2.1 ≤ msT → (∀ o ∈ rs.2.2.2, ri_obs ρ o) →
    W p l e R s m args below meth c H locs cells slots (vx_MQ below (ri_Qc G D tyc A ρ sa n0 ad0 LT) (ri_XC G D tyc A ρ sa n0 ad0 LT) args s mcT msT A) (F0 m pc ls (st.map (ri_cv ρ sa ad)))
end RIX1
section RIX2
variable {p : Program} {l : Launch} {e : Env} {R : Room} {s : State} {m : MethodId} {args : Array Value} {below : List Frame} {meth : Method} {c : Code}
variable {ALL : List Jvm.Cond} {STR : List (String × Nat × String)} {G : ri_Tb} {M : ri_Mt} {D : va_G} {tyc : Nat → ClassId} {A : Nat → Prop}
variable {ρ : Nat → Int32} {sa : String → Nat → Nat} {n0 LC d mcT msT : Nat} {ad0 : Nat → Nat} {LT : List ri_Lf} {lv : List (Nat × Jvm.Term)} {st : List Jvm.Term} {mem : ri_Me} {pc idx len : Nat} {cs : List ri_Cd} {rs r1 : ri_Rs} {K : ri_K} {call : ri_Call}
theorem ri_So_le (h : ri_So p l e R s m args below meth c G M D tyc A ρ sa n0 ad0 LT mcT msT pc lv st cs mem r1) (hl : ri_le r1 rs) : ri_So p l e R s m args below meth c G M D tyc A ρ sa n0 ad0 LT mcT msT pc lv st cs mem rs :=
  fun ad ls H locs cells slots h1 h2 h3 h4 h5 h6 h7 h8 h9 h10 h11 h12 h13 h14 => h ad ls H locs cells slots h1 h2 h3 h4 h5 h6 h7 h8 h9 h10 (fun x hx => h11 x (hl.1 x hx)) (Nat.le_trans (Nat.add_le_add_left hl.2.1 _) h12) (Nat.le_trans (Nat.add_le_add_left hl.2.2.1 _) h13) (fun o ho => h14 o (hl.2.2.2 o ho))
theorem ri_sat_eq {a b : Jvm.Term} {v : Bool} : ri_sat ρ (0, a, b, v) ↔ (v = true ↔ ri_iv ρ a = ri_iv ρ b) := Iff.rfl
theorem ri_sat_lt {a b : Jvm.Term} {v : Bool} : ri_sat ρ (1, a, b, v) ↔ (v = true ↔ ri_iv ρ a < ri_iv ρ b) := Iff.rfl
theorem ri_i0 : ri_iv ρ (.int 0) = 0 := rfl
/-- a compare with 0 -/
theorem ri_if_W {cnd : ClassFile.Cond} {off : Int} {t : Nat} {a : Jvm.Term} {r : List Jvm.Term} {H : Heap} {locs : List Loc} {cells slots : Nat} {Q : State → Prop} {ls : Array Slot} {ad : Nat → Nat} (hx : p.tables.exec = Jvm.exec) (hb : c.code = ri_by M) (hd : decode (ri_by M) pc = .ok (.ifCond cnd off, 3)) (ht : (pc : Int) + off = (t : Int)) (ha : ri_k a = 0)
    (kt : ri_sat ρ (ri_cnd cnd a (.int 0)) → W p l e R s m args below meth c H locs cells slots Q (F0 m t ls (r.map (ri_cv ρ sa ad)))) (kf : ¬ ri_sat ρ (ri_cnd cnd a (.int 0)) → W p l e R s m args below meth c H locs cells slots Q (F0 m (pc + 3) ls (r.map (ri_cv ρ sa ad)))) :
    W p l e R s m args below meth c H locs cells slots Q (F0 m pc ls ((a :: r).map (ri_cv ρ sa ad))) := by
  rw [List.map_cons, ri_ivI ha]
  cases cnd with
  | eq => exact lv_if_eq hx hb hd ht (fun h => kt (ri_sat_eq.mpr (by rw [ri_i0]; simp [h]))) (fun h => kf (fun q => h (by have := ri_sat_eq.mp q; rw [ri_i0] at this; exact this.mp rfl)))
  | ne => exact lv_if_ne hx hb hd ht (fun h => kt (ri_sat_eq.mpr (by rw [ri_i0]; simp [h]))) (fun h => kf (fun q => by have := ri_sat_eq.mp q; rw [ri_i0] at this; exact absurd (this.mpr h) (by decide)))
  | lt => exact lv_if_lt hx hb hd ht (fun h => kt (ri_sat_lt.mpr (by rw [ri_i0]; simp [h]))) (fun h => kf (fun q => h (by have := ri_sat_lt.mp q; rw [ri_i0] at this; exact this.mp rfl)))
  | ge => exact lv_if_ge hx hb hd ht (fun h => kt (ri_sat_lt.mpr (by rw [ri_i0]; simp [Int32.not_lt.mpr h]))) (fun h => kf (fun q => h (by have := ri_sat_lt.mp q; rw [ri_i0] at this; exact Int32.not_lt.mp (fun z => absurd (this.mpr z) (by decide)))))
  | gt => exact lv_if_gt hx hb hd ht (fun h => kt (ri_sat_lt.mpr (by rw [ri_i0]; simp [h]))) (fun h => kf (fun q => h (by have := ri_sat_lt.mp q; rw [ri_i0] at this; exact this.mp rfl)))
  | le => exact lv_if_le hx hb hd ht (fun h => kt (ri_sat_lt.mpr (by rw [ri_i0]; simp [Int32.not_lt.mpr h]))) (fun h => kf (fun q => h (by have := ri_sat_lt.mp q; rw [ri_i0] at this; exact Int32.not_lt.mp (fun z => absurd (this.mpr z) (by decide)))))
theorem ri_ic_W {cnd : ClassFile.Cond} {off : Int} {t : Nat} {a b : Jvm.Term} {r : List Jvm.Term} {H : Heap} {locs : List Loc} {cells slots : Nat} {Q : State → Prop} {ls : Array Slot} {ad : Nat → Nat} (hx : p.tables.exec = Jvm.exec) (hb : c.code = ri_by M) (hd : decode (ri_by M) pc = .ok (.if_icmp cnd off, 3)) (ht : (pc : Int) + off = (t : Int)) (ha : ri_k a = 0) (hb2 : ri_k b = 0)
    (kt : ri_sat ρ (ri_cnd cnd a b) → W p l e R s m args below meth c H locs cells slots Q (F0 m t ls (r.map (ri_cv ρ sa ad)))) (kf : ¬ ri_sat ρ (ri_cnd cnd a b) → W p l e R s m args below meth c H locs cells slots Q (F0 m (pc + 3) ls (r.map (ri_cv ρ sa ad)))) :
    W p l e R s m args below meth c H locs cells slots Q (F0 m pc ls ((b :: a :: r).map (ri_cv ρ sa ad))) := by
  rw [List.map_cons, List.map_cons, ri_ivI ha, ri_ivI hb2]
  cases cnd with
  | eq => exact lv_icmp_eq hx hb hd ht (fun h => kt (ri_sat_eq.mpr (by simp [h]))) (fun h => kf (fun q => h ((ri_sat_eq.mp q).mp rfl)))
  | ne => exact lv_icmp_ne hx hb hd ht (fun h => kt (ri_sat_eq.mpr (by simp [h]))) (fun h => kf (fun q => absurd ((ri_sat_eq.mp q).mpr h) (by decide)))
  | lt => exact lv_icmp_lt hx hb hd ht (fun h => kt (ri_sat_lt.mpr (by simp [h]))) (fun h => kf (fun q => h ((ri_sat_lt.mp q).mp rfl)))
  | ge => exact lv_icmp_ge hx hb hd ht (fun h => kt (ri_sat_lt.mpr (by simp [Int32.not_lt.mpr h]))) (fun h => kf (fun q => h (Int32.not_lt.mp (fun z => absurd ((ri_sat_lt.mp q).mpr z) (by decide)))))
  | gt => exact lv_icmp_gt hx hb hd ht (fun h => kt (ri_sat_lt.mpr (by simp [h]))) (fun h => kf (fun q => h ((ri_sat_lt.mp q).mp rfl)))
  | le => exact lv_icmp_le hx hb hd ht (fun h => kt (ri_sat_lt.mpr (by simp [Int32.not_lt.mpr h]))) (fun h => kf (fun q => h (Int32.not_lt.mp (fun z => absurd ((ri_sat_lt.mp q).mpr z) (by decide)))))
/-- a switch -/
theorem ri_chain_s {x : Jvm.Term} {T : Nat → List ri_Cd → Option ri_Rs} {dflt : Int} : ∀ (ps : List (Int × Int)) (cs : List ri_Cd) {rs : ri_Rs}, (∀ q ∈ cs, ri_sat ρ q) → ri_chain x pc T dflt ps cs = some rs →
    ∃ (off : Int) (t : Nat) (cs' : List ri_Cd) (r1 : ri_Rs), ri_tg pc off = some t ∧ T t cs' = some r1 ∧ (∀ q ∈ cs', ri_sat ρ q) ∧ ri_le r1 rs ∧ ((∃ (j : Nat) (v : Int), ps[j]? = some (v, off) ∧ ri_iv ρ x = Int32.ofInt v ∧ ∀ (i : Nat), i < j → ∀ (w o : Int), ps[i]? = some (w, o) → ¬ ri_iv ρ x = Int32.ofInt w) ∨ (off = dflt ∧ ∀ (i : Nat) (w o : Int), ps[i]? = some (w, o) → ¬ ri_iv ρ x = Int32.ofInt w))
  | [], cs, rs, hsat, h => by
    unfold ri_chain at h
    split at h
    · next t ht => exact ⟨dflt, t, cs, rs, ht, h, hsat, ⟨fun _ h => h, Nat.le_refl _, Nat.le_refl _, fun _ h => h⟩, Or.inr ⟨rfl, fun i w o hi => by simp at hi⟩⟩
    · cases h
  | (v, off) :: l, cs, rs, hsat, h => by
    unfold ri_chain at h
    have e1 : ri_iv ρ (ri_ci (Int32.ofInt v)) = Int32.ofInt v := by rw [ri_ci_eq]; rfl
    rcases ri_br_s hsat h with ⟨h1, cs', r1, h2, h3, h4⟩ | ⟨h1, cs', r1, h2, h3, h4⟩
    · split at h2
      · next t ht =>
        refine ⟨off, t, cs', r1, ht, h2, h3, h4, Or.inl ⟨0, v, rfl, ?_, fun i hi => absurd hi (Nat.not_lt_zero i)⟩⟩
        have h5 := (ri_sat_eq.mp h1).mp rfl
        rw [e1] at h5
        exact h5
      · cases h2
    · have hne : ¬ ri_iv ρ x = Int32.ofInt v := fun z => h1 (ri_sat_eq.mpr ⟨fun _ => by rw [e1]; exact z, fun _ => rfl⟩)
      obtain ⟨off2, t, cs2, r2, g1, g2, g3, g4, g5⟩ := ri_chain_s l cs' h3 h2
      refine ⟨off2, t, cs2, r2, g1, g2, g3, ri_le_tr g4 h4, ?_⟩
      rcases g5 with ⟨j, w, k1, k2, k3⟩ | ⟨k1, k2⟩
      · refine Or.inl ⟨j + 1, w, by rw [List.getElem?_cons_succ]; exact k1, k2, fun i hi w2 o2 hi2 => ?_⟩
        cases i with
        | zero => rw [List.getElem?_cons_zero] at hi2; cases hi2; exact hne
        | succ i => rw [List.getElem?_cons_succ] at hi2; exact k3 i (by omega) w2 o2 hi2
      · refine Or.inr ⟨k1, fun i w2 o2 hi2 => ?_⟩
        cases i with
        | zero => rw [List.getElem?_cons_zero] at hi2; cases hi2; exact hne
        | succ i => rw [List.getElem?_cons_succ] at hi2; exact k2 i w2 o2 hi2
/-- an end -/
theorem ri_end {ad : Nat → Nat} {H : Heap} {locs : List Loc} {tm : Option Jvm.Term} {t : State} (hag : ri_ag n0 ad0 ad) (hn : n0 ≤ mem.length) (hP : va_P D (ri_cls G) (ri_w ρ sa (ri_aty G) tyc ad mem) H) (hD : va_D A (ri_w ρ sa (ri_aty G) tyc ad mem)) (hS : va_S A s.heap H locs) (hok : ri_okM mem.length mem) (hst : ∀ z, tm = some z → ri_ok mem.length z) (hsat : ∀ q ∈ cs, ri_sat ρ q) (hm : (cs, mem, .inl tm) ∈ LT) (ht : t.heap = H) :
    ri_Qc G D tyc A ρ sa n0 ad0 LT args s (.returned (tm.map (ri_cv ρ sa ad))) t :=
  ⟨(cs, mem, .inl tm), hm, tm, ad, rfl, rfl, hst, hag, hsat, hn, hok, by rw [ht]; exact hP, hD, hS.F ht⟩
theorem ri_thr_W {ik : Nat} (hC : ri_Cx l ALL STR sa G M D tyc A p s m args meth c R LC d mcT msT) (hcode : ∀ pc i len, (ri_co M)[pc]? = some (some (i, len)) → decode (ri_by M) pc = .ok (i, len)) (h : ri_thr G M pc ik st cs mem = some rs) (hd : decode (ri_by M) pc = .ok (.new ik, 3)) : ri_So p l e R s m args below meth c G M D tyc A ρ sa n0 ad0 LT mcT msT pc lv st cs mem rs := by
  obtain ⟨⟨⟨hx, hb, hml, hown, hin⟩, hM, hcl, hlk, hts, hK, hA, hstr⟩, hSt, hwm, hr, hlocks, hex, hl, rfl, hLC, hco⟩ := hC
  intro ad ls H locs cells slots hag hn hl0 hP hD hS hok hlv hst hsat hLT hc1 hs1 hob
  unfold ri_thr at h
  split at h
  · next a5 b5 E is ic hcp h3 h4 h6 h9 =>
    split at h
    · next a9 b9 t9 a13 b13 E2 hcs hci =>
      split at h
      · next hk =>
        cases h
        obtain ⟨rfl, hlen⟩ := hk
        obtain ⟨k1, k2, k3⟩ := ri_cp_s hlk hM hcp
        have k9 := ri_cp_s hlk hM hcs
        obtain ⟨names, n1, n2, n3⟩ := ri_cp_s hlk hM hci
        have hsum := ri_sum4 (ρ := ρ) (sa := sa) (ad := ad) hlen
        refine vx_throwS (A := A) hx hb hl hown k3 n2 (hts _ k1) (hts _ k2) (hstr _ k9) (fun w hw => hts _ (n3 w hw).1) ?_ hSt.2.2.2.1 hSt.2.2.2.2 hS (hl0.1.trans hml.symm) hd (hcode _ _ _ h3) (hcode _ _ _ h4) (hcode _ _ _ h6) (hcode _ _ _ h9) (fun x hx => (hex x hx).elim) ?_ ?_ ?_ ?_ hlocks ?_ hS.2.2 hc1 hs1
        · intro w hw
          rcases List.mem_cons.mp hw with rfl | hw
          · rfl
          · rcases List.mem_cons.mp hw with rfl | hw
            · rfl
            · exact (n3 w hw).2
        · show names.length + 3 < d + 1 + 5
          omega
        · show _ ≤ 150 + (d + 1) * LC
          have : 13 * (names.length + 1) + 43 ≤ 82 := by omega
          omega
        · exact hc1
        · exact hs1
        · intro t hvm hsz hq
          refine ⟨(cs, mem, .inr E2), hLT _ List.mem_cons_self, ad, rfl, hag, hsat, hn, hok, va_P.kept hP (fun k q hk => hq q.1 (vx_lt hP hk)), hD, Nat.le_trans hS.1 hsz, fun q h1 h2 => (hq q (Nat.lt_of_lt_of_le h1 hS.1)).trans (hS.2.1 q h1 h2)⟩
      · cases h
    · cases h
  · cases h
end RIX2
end RIX
end
section
/-! RI: calls -/
section RIY
section RIY1
variable {p : Program} {l : Launch} {e : Env} {R : Room} {s : State} {m : MethodId} {args : Array Value} {below : List Frame} {meth : Method} {c : Code}
variable {ALL : List Jvm.Cond} {STR : List (String × Nat × String)} {G : ri_Tb} {M : ri_Mt} {D : va_G} {tyc : Nat → ClassId} {A : Nat → Prop}
variable {ρ : Nat → Int32} {sa : String → Nat → Nat} {n0 LC d mcT msT : Nat} {ad0 : Nat → Nat} {LT : List ri_Lf} {lv : List (Nat × Jvm.Term)} {st rest : List Jvm.Term} {mem : ri_Me} {pc idx len : Nat} {cs : List ri_Cd} {rs r1 : ri_Rs} {K : ri_K} {call : ri_Call}
theorem ri_A1 {ad : Nat → Nat} {H : Heap} {locs : List Loc} (hD : va_D A (ri_w ρ sa (ri_aty G) tyc ad mem)) (hS : va_S A s.heap H locs) (hA : ∀ q, s.heap.size ≤ q → A q) : ∀ q, va_A (ri_w ρ sa (ri_aty G) tyc ad mem) H.size q → A q := by
  intro q h
  rcases h with ⟨k, e, h⟩ | h
  · exact hD.2 k (q, e) h
  · exact hA q (Nat.le_trans hS.1 h)
theorem ri_back_W {ad : Nat → Nat} {ls : Array Slot} {H : Heap} {locs : List Loc} {cells slots : Nat} {st0 : List Value} {L : List ri_Lf} {mc ms : Nat} {r2 : ri_Rs} {va : Array Value} (hC : ri_Cx l ALL STR sa G M D tyc A p s m args meth c R LC d mcT msT) (hK : ∀ pc lv st cs mem rs, K pc lv st cs mem = some rs → ri_So p l e R s m args below meth c G M D tyc A ρ sa n0 ad0 LT mcT msT pc lv st cs mem rs)
    (hrun : vx_Run p l e R s m args below meth c H locs cells slots mc ms (F0 m pc ls st0) (rest.map (ri_cv ρ sa ad)) (ri_Qc G D tyc (va_A (ri_w ρ sa (ri_aty G) tyc ad mem) H.size) ρ sa mem.length ad L va) (ri_XC G D tyc (va_A (ri_w ρ sa (ri_aty G) tyc ad mem) H.size) ρ sa mem.length ad L) (va_A (ri_w ρ sa (ri_aty G) tyc ad mem) H.size))
    (hseq : ri_seq (ri_after K pc lv rest) L = some r2) (hag : ri_ag n0 ad0 ad) (hn : n0 ≤ mem.length) (hl0 : lv_has ls (ri_mx M) (ri_lc ρ sa ad lv)) (hD : va_D A (ri_w ρ sa (ri_aty G) tyc ad mem)) (hS : va_S A s.heap H locs) (hlv : ∀ q ∈ lv, ri_ok mem.length q.2) (hst : ∀ t ∈ rest, ri_ok mem.length t)
    (hLT : ∀ x ∈ r2.1, x ∈ LT) (hc1 : cells + mc + r2.2.1 ≤ mcT) (hs1 : slots + ms + r2.2.2.1 ≤ msT) (hob : ∀ o ∈ r2.2.2.2, ri_obs ρ o) :
    W p l e R s m args below meth c H locs cells slots (vx_MQ below (ri_Qc G D tyc A ρ sa n0 ad0 LT) (ri_XC G D tyc A ρ sa n0 ad0 LT) args s mcT msT A) (F0 m pc ls st0) := by
  obtain ⟨⟨⟨hx, hb, hml, hown, hin⟩, hM, hcl, hlk, hts, hKK, hA, hstr⟩, hSt, hwm, hr, hlocks, hex, hl, rfl, hLC, hco⟩ := hC
  have hA1 := ri_A1 hD hS hA
  refine ri_use hrun (fun v st₀ t H1 Ls h0 ht hvm hL hQ => ?_) (fun q E ce st₀ t H1 Ls h0 ht hvm hL hQ hce hcv hcl9 => ?_)
  · obtain ⟨lf, hlf, tm, ad', e1, e2, e3, f1, f2, f3, f4, f5, f6, f7⟩ := hQ
    obtain ⟨rx, g1, g2⟩ := ri_seq_s L hseq lf hlf
    obtain ⟨k1, k2, k3⟩ := vx_keep (T' := t) h0 rfl hS (fun q _ h => hA1 q h) hA1 hL f7
    rw [ht] at f5 k3
    have e4 : v = tm.map (ri_cv ρ sa ad') := by injection e2
    have hK1 : K (pc + 3) lv (tm.toList ++ rest) lf.1 lf.2.1 = some rx := by
      unfold ri_after at g1
      rw [e1] at g1
      cases tm with
      | none => exact g1
      | some z => exact g1
    have hgo := hK _ _ _ _ _ _ hK1 ad' ls H1 (locs ++ Ls) (cells + mc) (slots + ms) (ri_ag_tr hag f1 hn) (Nat.le_trans hn f3) (by rw [ri_lc_ag hlv f1]; exact hl0) f5 (f6.weaken (fun _ _ _ h => hA1 _ h)) k3 f4 (fun q hq => ri_ok_mono (hlv q hq) f3) (fun z hz => by
      rcases List.mem_append.mp hz with hz | hz
      · cases tm with
        | none => cases hz
        | some w =>
          have := e3 w rfl
          simp at hz
          rw [hz]; exact this
      · exact ri_ok_mono (hst z hz) f3) f2 (fun x hx => hLT x (g2.1 x hx)) (Nat.le_trans (Nat.add_le_add_left g2.2.1 _) hc1) (Nat.le_trans (Nat.add_le_add_left g2.2.2.1 _) hs1) (fun o ho => hob o (g2.2.2.2 o ho))
    have e5 : v.toList ++ rest.map (ri_cv ρ sa ad) = (tm.toList ++ rest).map (ri_cv ρ sa ad') := by
      rw [e4, List.map_append, ri_map_ag hst f1]
      cases tm <;> rfl
    rw [e5]
    exact hgo
  · obtain ⟨lf, hlf, ad', e1, f1, f2, f3, f4, f5, f6, f7⟩ := hQ
    obtain ⟨rx, g1, g2⟩ := ri_seq_s L hseq lf hlf
    obtain ⟨k1, k2, k3⟩ := vx_keep (T' := t) h0 rfl hS (fun q _ h => hA1 q h) hA1 hL f7
    rw [ht] at f5 k3
    unfold ri_after at g1
    rw [e1] at g1
    cases g1
    refine vx_out (fun x hx => (hex x hx).elim) hlocks hce hcv hcl9 (fun t9 ht9 _ => ?_) k3.2.2 (Nat.le_trans (Nat.le_add_right _ _) hc1) (Nat.le_trans (Nat.le_add_right _ _) hs1)
    exact ⟨(lf.1, lf.2.1, .inr E), hLT _ (g2.1 _ List.mem_cons_self), ad', rfl, ri_ag_tr hag f1 hn, f2, Nat.le_trans hn f3, f4, by rw [ht9]; exact f5, f6.weaken (fun _ _ _ h => hA1 _ h), k3.F ht9⟩
theorem ri_recv_s {cls : String} {as : List Jvm.Term} (h : ri_recv G cls mem as = true) : ∃ (k : Nat) (r : List Jvm.Term) (ci : Nat) (fs : List Jvm.Term) (rr : vw_C), as = .index k :: r ∧ mem[k]? = some (.inl (ci, fs)) ∧ (ri_cls G)[ci]? = some rr ∧ rr.1 = cls := by
  unfold ri_recv at h
  split at h
  · next k r =>
    split at h
    · next ci fs hm =>
      split at h
      · next rr hc => exact ⟨k, r, ci, fs, rr, rfl, hm, hc, beq_iff_eq.mp h⟩
      · cases h
    · cases h
  · cases h
/-- a callee's start, from a caller's place -/
theorem ri_pre {ad : Nat → Nat} {H : Heap} {locs : List Loc} {as : List Jvm.Term} (hSt : ri_St ALL STR G D tyc sa A s) (hwm : ∀ w ∈ ALL, ri_warm w = true) (hA : ∀ q, s.heap.size ≤ q → A q) (hP : va_P D (ri_cls G) (ri_w ρ sa (ri_aty G) tyc ad mem) H) (hD : va_D A (ri_w ρ sa (ri_aty G) tyc ad mem)) (hS : va_S A s.heap H locs) (U : State) (hU : U.heap = H) (hW : s.WarmedH U.vm) :
    ri_Pc ALL STR G D tyc ρ sa ad H.size as mem (as.map (ri_cv ρ sa ad)).toArray U :=
  ⟨rfl, by rw [hU], by rw [hU]; exact hP, hD.weaken (fun _ _ _ _ => trivial), ri_St_go hwm hSt hW (fun q h1 h2 => by rw [hU]; exact hS.2.1 q h1 h2) (ri_A1 hD hS hA)⟩
/-- what is asked of a callee's tables -/
theorem ri_cb {M2 : ri_Mt} {n mc ms : Nat} (hts : ∀ w ∈ ALL, ∀ a : Array Value, w.before a s = true) (hLC : ∀ i ∈ ri_mts G, 19 + ri_mx i ≤ LC) (hco : ∀ M2 ∈ ri_mts G, ri_own M2 = (ri_nm M2).cls ∧ Jvm.Cond.code (ri_nm M2) (ri_by M2) (ri_mx M2) (ri_rt M2) ∈ ALL ∧ goodWord (Jvm.Cond.code (ri_nm M2) (ri_by M2) (ri_mx M2) (ri_rt M2)) = true ∧ Jvm.Cond.initialized (ri_nm M2).cls ∈ ALL ∧ Bundle.fit (ri_nm M2).cls = true) (hM2 : M2 ∈ ri_mts G) (hpar : (parseMethodDescriptor (ri_nm M2).desc).map (fun d => d.parameters.length) = some n) :
    ((ri_rm d LC mc ms).cells = mc ∧ (ri_rm d LC mc ms).slots = ms ∧ (ri_rm d LC mc ms).frames + 1 ≤ (ri_rm (d + 1) LC mcT msT).frames ∧ 8 + (ri_mx M2 + 11) + (ri_rm d LC mc ms).locals ≤ (ri_rm (d + 1) LC mcT msT).locals ∧ (∀ w ∈ ([.code (ri_nm M2) (ri_by M2) (ri_mx M2) (ri_rt M2)] : List Jvm.Cond), ∀ (a' : Array Value) (U : State), s.WarmedH U.vm → w.before a' U = true) ∧ Jvm.Cond.code (ri_nm M2) (ri_by M2) (ri_mx M2) (ri_rt M2) ∈ ([.code (ri_nm M2) (ri_by M2) (ri_mx M2) (ri_rt M2)] : List Jvm.Cond)) ∧
    (Jvm.Cond.code (ri_nm M2) (ri_by M2) (ri_mx M2) (ri_rt M2)).before args s = true ∧ (Jvm.Cond.initialized (ri_nm M2).cls).before args s = true ∧ ((ri_nm M2).cls ≠ "java/lang/invoke/MethodHandle" ∧ (ri_nm M2).cls ≠ "java/lang/invoke/VarHandle") ∧ (∀ sig, parseMethodDescriptor (ri_nm M2).desc = some sig → n = sig.parameters.length) := by
  obtain ⟨-, c1, c2, c3, c4⟩ := hco M2 hM2
  have h1 := hLC M2 hM2
  refine ⟨⟨rfl, rfl, ?_, ?_, fun w hw a' U hW => ?_, List.mem_cons_self⟩, hts _ c1 _, hts _ c3 _, ⟨(Bundle.fit_spec c4).2.1, (Bundle.fit_spec c4).2.2⟩, fun sig h => ?_⟩
  · show d + 5 + 1 ≤ d + 1 + 5
    omega
  · show 8 + (ri_mx M2 + 11) + (150 + d * LC) ≤ 150 + (d + 1) * LC
    have : (d + 1) * LC = d * LC + LC := Nat.succ_mul d LC
    omega
  · rw [List.mem_singleton] at hw
    subst hw
    exact word_at hW (good_of_word c2) (hts _ c1 args)
  · rw [h] at hpar
    exact (Option.some.inj hpar).symm
theorem ri_inv_W (sort : Nat) (hC : ri_Cx l ALL STR sa G M D tyc A p s m args meth c R LC d mcT msT) (hK : ∀ pc lv st cs mem rs, K pc lv st cs mem = some rs → ri_So p l e R s m args below meth c G M D tyc A ρ sa n0 ad0 LT mcT msT pc lv st cs mem rs)
    (hcall : ∀ mi as cs mem rs, call mi as cs mem = some rs → ri_Con l ALL STR G LC d mi as cs mem rs)
    (hd0 : sort = 0 → decode (ri_by M) pc = .ok (.invokevirtual idx, 3)) (hd1 : sort = 1 → decode (ri_by M) pc = .ok (.invokestatic idx, 3)) (hd2 : sort = 2 → decode (ri_by M) pc = .ok (.invokespecial idx, 3)) (h3 : sort < 3)
    (h : ri_inv G call M K sort pc idx lv st cs mem = some rs) : ri_So p l e R s m args below meth c G M D tyc A ρ sa n0 ad0 LT mcT msT pc lv st cs mem rs := by
  have hC0 := hC
  obtain ⟨⟨⟨hx, hb, hml, hown, hin⟩, hM, hcl, hlk, hts, hKK, hA, hstr⟩, hSt, hwm, hr, hlocks, hex, hl, rfl, hLC, hco⟩ := hC
  intro ad ls H locs cells slots hag hn hl0 hP hD hS hok hlv hst hsat hLT hc1 hs1 hob
  unfold ri_inv at h
  split at h
  · next kd mi n tx hcp =>
    have hlink := ri_cp_s hlk hM hcp
    split at h
    · next hkd =>
      split at h
      · next M2 hM2 =>
        split at h
        · next hk =>
          obtain ⟨hlen, hr4, hrecv⟩ := hk
          split at h
          · next L mc ms ob hcl2 =>
            obtain ⟨r2, hseq, x1, x2, x3, x4⟩ := ri_more_s h
            have hM2m : M2 ∈ ri_mts G := List.mem_of_getElem? hM2
            have hoks : ∀ t ∈ (st.take (ri_nn sort n)).reverse, ri_ok mem.length t := fun t ht => hst t (List.mem_of_mem_take (List.mem_reverse.mp ht))
            have hokr : ∀ t ∈ st.drop (ri_nn sort n), ri_ok mem.length t := fun t ht => hst t (List.mem_of_mem_drop ht)
            have hM9 := hcall _ _ _ _ _ hcl2 M2 hM2 D tyc ρ sa ad H.size hsat hok hoks (fun o ho => hob o (by rw [x4]; exact List.mem_append_left _ ho))
            have hsum := ri_sum4 (ρ := ρ) (sa := sa) (ad := ad) hr4
            rw [x2] at hc1
            rw [x3] at hs1
            have hf : cells + mc ≤ (ri_rm (d + 1) LC mcT msT).cells ∧ slots + ms ≤ (ri_rm (d + 1) LC mcT msT).slots := ⟨by show _ ≤ mcT; omega, by show _ ≤ msT; omega⟩
            have hpre := fun U hU hW => ri_pre (ρ := ρ) (as := (st.take (ri_nn sort n)).reverse) hSt hwm hA hP hD hS U hU hW
            have hbl := ri_Pc_blind (STR := STR) (G := G) (D := D) (tyc := tyc) (ρ := ρ) (sa := sa) (ad := ad) (sz := H.size) (args := (st.take (ri_nn sort n)).reverse) (mem := mem) hwm
            have hstk : st.map (ri_cv ρ sa ad) = ((st.take (ri_nn sort n)).reverse.map (ri_cv ρ sa ad)).reverse ++ (st.drop (ri_nn sort n)).map (ri_cv ρ sa ad) := by
              rw [← List.map_reverse, List.reverse_reverse, ← List.map_append, List.take_append_drop]
            have hlen9 : (st.take (ri_nn sort n)).reverse.length = (ri_nn sort n) := by
              rw [List.length_reverse, List.length_take]; omega
            generalize hAs : (st.take (ri_nn sort n)).reverse = as at hM9 hpre hbl hstk hlen9 hrecv
            refine ri_back_W (mc := mc) (ms := ms) (va := (as.map (ri_cv ρ sa ad)).toArray) hC0 hK ?_ hseq hag hn hl0 hD hS hlv hokr (fun x hx => hLT x (by rw [x1]; exact hx)) (by omega) (by omega) (fun o ho => hob o (by rw [x4]; exact List.mem_append_right _ ho))
            have hcf : CallFix p m c (ri_by M) (ri_mx M) s args [] (ri_own M) := ⟨hx, hb, hml, hown, fun w hw => by cases hw⟩
            rcases Nat.lt_or_ge sort 1 with h0 | h0
            · have h0 : sort = 0 := by omega
              subst h0
              obtain ⟨k, r, ci, fs, rr, rfl, hmk, hck, hrr⟩ := ri_recv_s (hrecv.resolve_left (by decide))
              have hre := va_recv hKK hP hck (ri_w_get hmk)
              rw [hrr] at hre
              have hlr : (r.map (ri_cv ρ sa ad)).length = n := by
                rw [List.length_map]
                have : r.length + 1 = n + 1 := hlen9
                omega
              have hst2 : st.map (ri_cv ρ sa ad) = (r.map (ri_cv ρ sa ad)).reverse ++ .ref (ad k) :: (st.drop (n + 1)).map (ri_cv ρ sa ad) := by
                rw [hstk]
                show (Value.ref (ad k) :: r.map (ri_cv ρ sa ad)).reverse ++ _ = _
                rw [List.reverse_cons, List.append_assoc]
                rfl
              rcases hkd with rfl | rfl
              · obtain ⟨M3, g1, g2, g3, g4, g5⟩ := hlink
                rw [hM2] at g1
                cases g1
                obtain ⟨⟨b1, b2, b3, b4, b5, b6⟩, b7, b8, b9, b10⟩ := ri_cb (args := args) (d := d) (mcT := mcT) (msT := msT) (mc := mc) (ms := ms) hSt.1 hLC hco hM2m g2
                exact vx_runV (As := r.map (ri_cv ρ sa ad)) (C := (ri_nm M2).cls) hcf hM9 ⟨⟨b1, b2, b3, b4, b5, b6, b7, b8, b9, b10, hSt.1 _ g3 _⟩, hSt.1 _ g4 _, hSt.1 _ g5 _⟩ ⟨hbl, hre, hpre⟩ rfl hlr hl0.1 hst2 (lv_room hsum) (hd0 rfl) hf
              · obtain ⟨M3, g1, g2, g3, g4, g5⟩ := hlink
                rw [hM2] at g1
                cases g1
                obtain ⟨b0, b7, b8, b9, b10⟩ := ri_cb (args := args) (d := d) (mcT := mcT) (msT := msT) (mc := mc) (ms := ms) hSt.1 hLC hco hM2m g2
                exact vx_runVN (As := r.map (ri_cv ρ sa ad)) (C := (ri_nm M2).cls) hcf hM9 ⟨⟨b0, b7, b8, b9, b10, hSt.1 _ g3 _⟩, hSt.1 _ g4 _, hSt.1 _ g5 _⟩ ⟨hbl, hre, hpre⟩ rfl hlr hl0.1 hst2 (lv_room hsum) (hd0 rfl) hf
            · rcases Nat.lt_or_ge sort 2 with h1 | h1
              · have h0 : sort = 1 := by omega
                subst h0
                have hlr : (as.map (ri_cv ρ sa ad)).length = n := by
                  rw [List.length_map]; exact hlen9
                rcases hkd with rfl | rfl
                · obtain ⟨M3, g1, g2, g3, g4⟩ := hlink
                  rw [hM2] at g1
                  cases g1
                  obtain ⟨⟨b1, b2, b3, b4, b5, b6⟩, b7, b8, b9, b10⟩ := ri_cb (args := args) (d := d) (mcT := mcT) (msT := msT) (mc := mc) (ms := ms) hSt.1 hLC hco hM2m g2
                  exact vx_runS hcf hM9 ⟨⟨b1, b2, b3, b4, b5, b6, b7, b8, b9, b10, hSt.1 _ g3 _⟩, hSt.1 _ g4 _⟩ ⟨hbl, hpre⟩ rfl hlr hl0.1 hstk (lv_room hsum) (hd1 rfl) hf
                · obtain ⟨M3, g1, g2, g3, g4⟩ := hlink
                  rw [hM2] at g1
                  cases g1
                  obtain ⟨b0, b7, b8, b9, b10⟩ := ri_cb (args := args) (d := d) (mcT := mcT) (msT := msT) (mc := mc) (ms := ms) hSt.1 hLC hco hM2m g2
                  exact vx_runSN hcf hM9 ⟨⟨b0, b7, b8, b9, b10, hSt.1 _ g3 _⟩, hSt.1 _ g4 _, trivial⟩ ⟨hbl, hpre⟩ rfl hlr hl0.1 hstk (lv_room hsum) (hd1 rfl) hf
              · have h0 : sort = 2 := by omega
                subst h0
                obtain ⟨k, r, ci, fs, rr, rfl, hmk, hck, hrr⟩ := ri_recv_s (hrecv.resolve_left (by decide))
                have hlr : (r.map (ri_cv ρ sa ad)).length = n := by
                  rw [List.length_map]
                  have : r.length + 1 = n + 1 := hlen9
                  omega
                have hst2 : st.map (ri_cv ρ sa ad) = (r.map (ri_cv ρ sa ad)).reverse ++ .ref (ad k) :: (st.drop (n + 1)).map (ri_cv ρ sa ad) := by
                  rw [hstk]
                  show (Value.ref (ad k) :: r.map (ri_cv ρ sa ad)).reverse ++ _ = _
                  rw [List.reverse_cons, List.append_assoc]
                  rfl
                rcases hkd with rfl | rfl
                · obtain ⟨M3, g1, g2, g3, g4, g5, g6⟩ := hlink
                  rw [hM2] at g1
                  cases g1
                  obtain ⟨⟨b1, b2, b3, b4, b5, b6⟩, b7, b8, b9, b10⟩ := ri_cb (args := args) (d := d) (mcT := mcT) (msT := msT) (mc := mc) (ms := ms) hSt.1 hLC hco hM2m g2
                  rw [g6] at b5 b6 b7 hM9
                  exact vx_runI (As := r.map (ri_cv ρ sa ad)) hcf hM9 ⟨⟨b1, b2, b3, b4, b5, b6, b7, b8, b9, b10, hSt.1 _ g3 _⟩, g5, hSt.1 _ g4 _⟩ ⟨hbl, hpre⟩ rfl hlr hl0.1 hst2 (lv_room hsum) (hd2 rfl) hf
                · obtain ⟨M3, g1, g2, g3, g4, g5, g6⟩ := hlink
                  rw [hM2] at g1
                  cases g1
                  obtain ⟨b0, b7, b8, b9, b10⟩ := ri_cb (args := args) (d := d) (mcT := mcT) (msT := msT) (mc := mc) (ms := ms) hSt.1 hLC hco hM2m g2
                  rw [g6] at b0 b7 hM9
                  exact vx_runIN (As := r.map (ri_cv ρ sa ad)) hcf hM9 ⟨⟨b0, b7, b8, b9, b10, hSt.1 _ g3 _⟩, g5, hSt.1 _ g4 _⟩ ⟨hbl, hpre⟩ rfl hlr hl0.1 hst2 (lv_room hsum) (hd2 rfl) hf
          · cases h
        · cases h
      · cases h
    · next hkd =>
      split at h
      · next hk7 =>
        subst hk7
        split at h
        · next k r =>
          split at h
          · next hs =>
            obtain ⟨rfl, hr4⟩ := hs
            obtain ⟨g1, g2, g3⟩ := hlink
            have hsum := ri_sum4 (ρ := ρ) (sa := sa) (ad := ad) hr4
            have hgo := hK _ _ _ _ _ _ h ad ls H locs cells slots hag hn hl0 hP hD hS hok hlv (fun t ht => hst t (List.mem_cons_of_mem _ ht)) hsat hLT hc1 hs1 hob
            refine W.objInit hx hb hown (hts _ g1) (hts _ g2) (hts _ g3) rfl (hl0.1.trans hml.symm) rfl (hd2 rfl) ?_ ?_ ?_
            · show 1 ≤ d + 1 + 5
              omega
            · have := lv_room (m := m) (pc := pc) (ls := ls) (rest := (r.map (ri_cv ρ sa ad))) hsum
              show 2 * (F0 m pc ls _).monitorRoom + _ + 12 ≤ 150 + (d + 1) * LC
              have e0 : (F0 m pc ls ((.index k :: r : List Jvm.Term).map (ri_cv ρ sa ad))).monitorRoom = 0 := rfl
              rw [e0]
              omega
            · exact W.eq (g2 := F0 m (pc + 3) ls (r.map (ri_cv ρ sa ad))) rfl hgo
          · cases h
        · cases h
      · split at h
        · next hk10 =>
          subst hk10
          split at h
          · next y x r =>
            split at h
            · next hs =>
              obtain ⟨rfl, hx0, hy0, hr4⟩ := hs
              obtain ⟨g1, g2, g3, g4⟩ := hlink
              have hsum := ri_sum4 (ρ := ρ) (sa := sa) (ad := ad) hr4
              rw [List.map_cons, List.map_cons, ri_ivI hx0, ri_ivI hy0]
              refine va_mmax hx hb (hml.trans hl0.1.symm) hown (hts _ g1) (hts _ g2) (hts _ g3) (hts _ g4) (by show 1 ≤ d + 1 + 5; omega) (by show _ ≤ 150 + (d + 1) * LC; omega) (by show cells ≤ mcT; omega) (by show slots ≤ msT; omega) (hd1 rfl) ?_
              rcases ri_br_s hsat h with ⟨h1, cs', q1, h2, h3', h4⟩ | ⟨h1, cs', q1, h2, h3', h4⟩
              · rw [if_pos ((ri_sat_lt.mp h1).mp rfl)]
                have hgo := ri_So_le (hK _ _ _ _ _ _ h2) h4 ad ls H locs cells slots hag hn hl0 hP hD hS hok hlv (fun t ht => hst t (by
                  rcases List.mem_cons.mp ht with rfl | ht
                  · exact List.mem_cons_self
                  · exact List.mem_cons_of_mem _ (List.mem_cons_of_mem _ ht))) h3' hLT hc1 hs1 hob
                rw [List.map_cons, ri_ivI hy0] at hgo
                exact hgo
              · rw [if_neg (fun z => h1 (ri_sat_lt.mpr ⟨fun _ => z, fun _ => rfl⟩))]
                have hgo := ri_So_le (hK _ _ _ _ _ _ h2) h4 ad ls H locs cells slots hag hn hl0 hP hD hS hok hlv (fun t ht => hst t (List.mem_cons_of_mem _ ht)) h3' hLT hc1 hs1 hob
                rw [List.map_cons, ri_ivI hx0] at hgo
                exact hgo
            · cases h
          · cases h
        · split at h
          · next hk11 =>
            subst hk11
            split at h
            · next y x r =>
              split at h
              · next hs =>
                obtain ⟨rfl, hx0, hy0, hr4⟩ := hs
                obtain ⟨g1, g2, g3, g4⟩ := hlink
                have hsum := ri_sum4 (ρ := ρ) (sa := sa) (ad := ad) hr4
                rw [List.map_cons, List.map_cons, ri_ivI hx0, ri_ivI hy0]
                refine va_mmin hx hb (hml.trans hl0.1.symm) hown (hts _ g1) (hts _ g2) (hts _ g3) (hts _ g4) (by show 1 ≤ d + 1 + 5; omega) (by show _ ≤ 150 + (d + 1) * LC; omega) (by show cells ≤ mcT; omega) (by show slots ≤ msT; omega) (hd1 rfl) ?_
                rcases ri_br_s hsat h with ⟨h1, cs', q1, h2, h3', h4⟩ | ⟨h1, cs', q1, h2, h3', h4⟩
                · rw [if_pos ((ri_sat_lt.mp h1).mp rfl)]
                  have hgo := ri_So_le (hK _ _ _ _ _ _ h2) h4 ad ls H locs cells slots hag hn hl0 hP hD hS hok hlv (fun t ht => hst t (by
                    rcases List.mem_cons.mp ht with rfl | ht
                    · exact List.mem_cons_self
                    · exact List.mem_cons_of_mem _ (List.mem_cons_of_mem _ ht))) h3' hLT hc1 hs1 hob
                  rw [List.map_cons, ri_ivI hy0] at hgo
                  exact hgo
                · rw [if_neg (fun z => h1 (ri_sat_lt.mpr ⟨fun _ => z, fun _ => rfl⟩))]
                  have hgo := ri_So_le (hK _ _ _ _ _ _ h2) h4 ad ls H locs cells slots hag hn hl0 hP hD hS hok hlv (fun t ht => hst t (List.mem_cons_of_mem _ ht)) h3' hLT hc1 hs1 hob
                  rw [List.map_cons, ri_ivI hx0] at hgo
                  exact hgo
              · cases h
            · cases h
          · cases h
  · cases h
end RIY1
end RIY
end
section
/-! RI: the whole run is sound; a contract for each call that runs through -/
section RIZ
section RIZ1
variable {p : Program} {l : Launch} {e : Env} {R : Room} {s : State} {m : MethodId} {args : Array Value} {below : List Frame} {meth : Method} {c : Code}
variable {ALL : List Jvm.Cond} {STR : List (String × Nat × String)} {G : ri_Tb} {M : ri_Mt} {D : va_G} {tyc : Nat → ClassId} {A : Nat → Prop}
variable {ρ : Nat → Int32} {sa : String → Nat → Nat} {n0 LC d mcT msT : Nat} {ad0 : Nat → Nat} {LT : List ri_Lf} {lv : List (Nat × Jvm.Term)} {st rest : List Jvm.Term} {mem : ri_Me} {pc idx len : Nat} {cs : List ri_Cd} {rs r1 : ri_Rs} {K : ri_K} {call : ri_Call}
theorem ri_ans_s {ok : Jvm.Term → Option FieldType → Bool} (h : ri_ans M st cs mem ok = some rs) : ∃ t, st = [t] ∧ ok t (ri_rt M) = true ∧ rs = ([(cs, mem, .inl (some t))], 0, 0, []) := by
  unfold ri_ans at h
  split at h
  · next t =>
    split at h
    · next hk => cases h; exact ⟨t, rfl, hk, rfl⟩
    · cases h
  · cases h
theorem ri_ofI {z : Int} (h1 : -2147483648 ≤ z) (h2 : z < 2147483648) : (Int32.ofInt z).toInt = z := by
  rw [Int32.toInt_ofInt]
  have : z.bmod (2 ^ 32) = z := by
    rw [Int.bmod_def]
    split <;> omega
  exact this
theorem ri_jump (h : ri_So p l e R s m args below meth c G M D tyc A ρ sa n0 ad0 LT mcT msT pc lv st cs mem rs) : ri_So p l e R s m args below meth c G M D tyc A ρ sa n0 ad0 LT mcT msT pc lv st cs mem rs := h
theorem ri_ctl_W {i : Instr} (hC : ri_Cx l ALL STR sa G M D tyc A p s m args meth c R LC d mcT msT) (hK : ∀ pc lv st cs mem rs, K pc lv st cs mem = some rs → ri_So p l e R s m args below meth c G M D tyc A ρ sa n0 ad0 LT mcT msT pc lv st cs mem rs)
    (hcall : ∀ mi as cs mem rs, call mi as cs mem = some rs → ri_Con l ALL STR G LC d mi as cs mem rs) (hcode : ∀ pc i len, (ri_co M)[pc]? = some (some (i, len)) → decode (ri_by M) pc = .ok (i, len))
    (hd : decode (ri_by M) pc = .ok (i, len)) (h : ri_ctl G call M K pc i len lv st cs mem = some rs) : ri_So p l e R s m args below meth c G M D tyc A ρ sa n0 ad0 LT mcT msT pc lv st cs mem rs := by
  have hC0 := hC
  obtain ⟨⟨⟨hx, hb, hml, hown, hin⟩, hM, hcl, hlk, hts, hKK, hA, hstr⟩, hSt, hwm, hr, hlocks, hex, hl, rfl, hLC, hco⟩ := hC
  cases i with
  | goto off =>
    simp only [ri_ctl] at h
    split at h
    · next t ht =>
      split at h
      · next h3 =>
        subst h3
        intro ad ls H locs cells slots h1 h2 h3 h4 h5 h6 h7 h8 h9 h10 h11 h12 h13 h14
        exact lv_goto hx hb hd (ri_tg_s ht) (hK _ _ _ _ _ _ h ad ls H locs cells slots h1 h2 h3 h4 h5 h6 h7 h8 h9 h10 h11 h12 h13 h14)
      · cases h
    · cases h
  | ifCond cnd off =>
    simp only [ri_ctl] at h
    split at h
    · next a r t ht =>
      split at h
      · next hk =>
        obtain ⟨ha, rfl⟩ := hk
        intro ad ls H locs cells slots h1 h2 h3 h4 h5 h6 h7 h8 h9 h10 h11 h12 h13 h14
        have h9' : ∀ z ∈ r, ri_ok mem.length z := fun z hz => h9 z (List.mem_cons_of_mem _ hz)
        refine ri_if_W hx hb hd (ri_tg_s ht) ha (fun hs => ?_) (fun hs => ?_)
        · rcases ri_br_s h10 h with ⟨g1, cs', q1, g2, g3, g4⟩ | ⟨g1, cs', q1, g2, g3, g4⟩
          · exact ri_So_le (hK _ _ _ _ _ _ g2) g4 ad ls H locs cells slots h1 h2 h3 h4 h5 h6 h7 h8 h9' g3 h11 h12 h13 h14
          · exact absurd hs g1
        · rcases ri_br_s h10 h with ⟨g1, cs', q1, g2, g3, g4⟩ | ⟨g1, cs', q1, g2, g3, g4⟩
          · exact absurd g1 hs
          · exact ri_So_le (hK _ _ _ _ _ _ g2) g4 ad ls H locs cells slots h1 h2 h3 h4 h5 h6 h7 h8 h9' g3 h11 h12 h13 h14
      · cases h
    · cases h
  | if_icmp cnd off =>
    simp only [ri_ctl] at h
    split at h
    · next b a r t ht =>
      split at h
      · next hk =>
        obtain ⟨ha, hb2, rfl⟩ := hk
        intro ad ls H locs cells slots h1 h2 h3 h4 h5 h6 h7 h8 h9 h10 h11 h12 h13 h14
        have h9' : ∀ z ∈ r, ri_ok mem.length z := fun z hz => h9 z (List.mem_cons_of_mem _ (List.mem_cons_of_mem _ hz))
        refine ri_ic_W hx hb hd (ri_tg_s ht) ha hb2 (fun hs => ?_) (fun hs => ?_)
        · rcases ri_br_s h10 h with ⟨g1, cs', q1, g2, g3, g4⟩ | ⟨g1, cs', q1, g2, g3, g4⟩
          · exact ri_So_le (hK _ _ _ _ _ _ g2) g4 ad ls H locs cells slots h1 h2 h3 h4 h5 h6 h7 h8 h9' g3 h11 h12 h13 h14
          · exact absurd hs g1
        · rcases ri_br_s h10 h with ⟨g1, cs', q1, g2, g3, g4⟩ | ⟨g1, cs', q1, g2, g3, g4⟩
          · exact absurd g1 hs
          · exact ri_So_le (hK _ _ _ _ _ _ g2) g4 ad ls H locs cells slots h1 h2 h3 h4 h5 h6 h7 h8 h9' g3 h11 h12 h13 h14
      · cases h
    · cases h
  | ifnull off =>
    simp only [ri_ctl] at h
    split at h
    · next a r t ht =>
      split at h
      · next h3 =>
        subst h3
        intro ad ls H locs cells slots h1 h2 h3 h4 h5 h6 h7 h8 h9 h10 h11 h12 h13 h14
        have h9' : ∀ z ∈ r, ri_ok mem.length z := fun z hz => h9 z (List.mem_cons_of_mem _ hz)
        split at h
        · next hk =>
          rw [List.map_cons, ri_N hk]
          exact lv_ifnullN hx hb hd (ri_tg_s ht) (hK _ _ _ _ _ _ h ad ls H locs cells slots h1 h2 h3 h4 h5 h6 h7 h8 h9' h10 h11 h12 h13 h14)
        · split at h
          · next hk =>
            obtain ⟨x, hx9⟩ := ri_R (ρ := ρ) (sa := sa) (ad := ad) hk
            rw [List.map_cons, hx9]
            exact lv_ifnull hx hb hd (hK _ _ _ _ _ _ h ad ls H locs cells slots h1 h2 h3 h4 h5 h6 h7 h8 h9' h10 h11 h12 h13 h14)
          · cases h
      · cases h
    · cases h
  | ifnonnull off =>
    simp only [ri_ctl] at h
    split at h
    · next a r t ht =>
      split at h
      · next h3 =>
        subst h3
        intro ad ls H locs cells slots h1 h2 h3 h4 h5 h6 h7 h8 h9 h10 h11 h12 h13 h14
        have h9' : ∀ z ∈ r, ri_ok mem.length z := fun z hz => h9 z (List.mem_cons_of_mem _ hz)
        split at h
        · next hk =>
          obtain ⟨x, hx9⟩ := ri_R (ρ := ρ) (sa := sa) (ad := ad) hk
          rw [List.map_cons, hx9]
          exact lv_ifnonnull hx hb hd (ri_tg_s ht) (hK _ _ _ _ _ _ h ad ls H locs cells slots h1 h2 h3 h4 h5 h6 h7 h8 h9' h10 h11 h12 h13 h14)
        · split at h
          · next hk =>
            rw [List.map_cons, ri_N hk]
            exact lv_ifnonnullN hx hb hd (hK _ _ _ _ _ _ h ad ls H locs cells slots h1 h2 h3 h4 h5 h6 h7 h8 h9' h10 h11 h12 h13 h14)
          · cases h
      · cases h
    · cases h
  | tableswitch dflt lo hi offs =>
    simp only [ri_ctl] at h
    split at h
    · next x r =>
      split at h
      · next hk =>
        obtain ⟨hk0, hhi, hlo1, hhi1⟩ := hk
        intro ad ls H locs cells slots h1 h2 h3 h4 h5 h6 h7 h8 h9 h10 h11 h12 h13 h14
        have h9' : ∀ z ∈ r, ri_ok mem.length z := fun z hz => h9 z (List.mem_cons_of_mem _ hz)
        obtain ⟨off, t, cs', q1, g1, g2, g3, g4, g5⟩ := ri_chain_s _ _ h10 h
        have hgo := ri_So_le (hK _ _ _ _ _ _ g2) g4 ad ls H locs cells slots h1 h2 h3 h4 h5 h6 h7 h8 h9' g3 h11 h12 h13 h14
        rw [List.map_cons, ri_ivI hk0]
        rcases g5 with ⟨j, v, k1, k2, -⟩ | ⟨k1, k2⟩
        · rw [List.getElem?_mapIdx] at k1
          obtain ⟨o, ho, he⟩ := Option.map_eq_some_iff.mp k1
          cases he
          have hj : j < offs.size := by
            have := (List.getElem?_eq_some_iff.mp ho).1
            simpa using this
          have hv : (ri_iv ρ x).toInt = lo + (j : Int) := by rw [k2]; exact ri_ofI (by omega) (by omega)
          refine lv_tableIn hx hb hd (by omega) (by omega) ?_ (ri_tg_s g1) hgo
          have e9 : ((ri_iv ρ x).toInt - lo).toNat = j := by omega
          rw [e9]
          simpa using ho
        · subst k1
          refine lv_tableOut hx hb hd ?_ (ri_tg_s g1) hgo
          rcases Int.lt_or_le (ri_iv ρ x).toInt lo with z | z
          · exact Or.inl z
          · rcases Int.lt_or_le hi (ri_iv ρ x).toInt with y | y
            · exact Or.inr y
            · exfalso
              have hj : ((ri_iv ρ x).toInt - lo).toNat < offs.toList.length := by
                rw [Array.length_toList]; omega
              refine k2 ((ri_iv ρ x).toInt - lo).toNat _ _ (by rw [List.getElem?_mapIdx, List.getElem?_eq_getElem hj]; rfl) ?_
              have e9 : lo + (((ri_iv ρ x).toInt - lo).toNat : Int) = (ri_iv ρ x).toInt := by omega
              rw [e9]
              exact (Int32.ofInt_toInt _).symm
      · cases h
    · cases h
  | ireturn =>
    simp only [ri_ctl] at h
    split at h
    · next h3 =>
      subst h3
      obtain ⟨t, rfl, hok9, rfl⟩ := ri_ans_s h
      intro ad ls H locs cells slots h1 h2 h3 h4 h5 h6 h7 h8 h9 h10 h11 h12 h13 h14
      have hE := fun t9 (ht9 : t9.heap = H) => ri_end (args := args) (tm := some t) (cs := cs) (t := t9) h1 h2 h4 h5 h6 h7 (fun z hz => by cases hz; exact h9 t List.mem_cons_self) h10 (h11 _ List.mem_cons_self) ht9
      refine vx_ret (W.widen h12 h13 ?_)
      cases hrt : ri_rt M with
      | none => rw [hrt] at hok9; exact absurd hok9 (by simp [ri_okI])
      | some ty =>
        rw [hrt] at hok9
        have hr2 := hr.trans hrt
        cases ty with
        | int =>
          have hk : ri_k t = 0 := by simpa [ri_okI] using hok9
          simp only [List.map_cons, List.map_nil, Option.map_some] at hE ⊢
          rw [ri_I hk] at hE ⊢
          exact W.iret hx hb hr2 (fun t9 ht9 _ => hE t9 ht9) h6.2.2 hd hlocks
        | boolean =>
          obtain ⟨q1, q2⟩ := ri_fit_s (ρ := ρ) (sa := sa) (ad := ad) (ty := .boolean) (t := t) hok9
          have hk : ri_k t = 0 := by
            simp only [ri_okI, ri_fit] at hok9
            split at hok9
            · rfl
            · cases hok9
          simp only [List.map_cons, List.map_nil, Option.map_some] at hE ⊢
          rw [ri_I hk] at hE q1 ⊢
          exact W.zret hx hb hr2 q1 (fun t9 ht9 _ => hE t9 ht9) h6.2.2 hd hlocks
        | _ => exact absurd hok9 (by simp [ri_okI])
    · cases h
  | areturn =>
    simp only [ri_ctl] at h
    split at h
    · next h3 =>
      subst h3
      obtain ⟨t, rfl, hok9, rfl⟩ := ri_ans_s h
      intro ad ls H locs cells slots h1 h2 h3 h4 h5 h6 h7 h8 h9 h10 h11 h12 h13 h14
      have hE := fun t9 (ht9 : t9.heap = H) => ri_end (args := args) (tm := some t) (cs := cs) (t := t9) h1 h2 h4 h5 h6 h7 (fun z hz => by cases hz; exact h9 t List.mem_cons_self) h10 (h11 _ List.mem_cons_self) ht9
      refine vx_ret (W.widen h12 h13 ?_)
      cases hrt : ri_rt M with
      | none => rw [hrt] at hok9; exact absurd hok9 (by simp [ri_okA])
      | some ty =>
        rw [hrt] at hok9
        have hr2 := hr.trans hrt
        have hk : (ri_k t = 2 ∨ ri_k t = 3) ∧ ((∃ n, ty = .object n) ∨ ∃ z, ty = .array z) := by
          cases ty with
          | object n => simp [ri_okA] at hok9; exact ⟨hok9, Or.inl ⟨n, rfl⟩⟩
          | array n => simp [ri_okA] at hok9; exact ⟨hok9, Or.inr ⟨n, rfl⟩⟩
          | _ => exact absurd hok9 (by simp [ri_okA])
        have hv : ri_cv ρ sa ad t = .null ∨ ∃ a, ri_cv ρ sa ad t = .ref a := by
          rcases hk.1 with h0 | h0
          · exact Or.inr (ri_R h0)
          · exact Or.inl (ri_N h0)
        simp only [List.map_cons, List.map_nil, Option.map_some] at hE ⊢
        exact W.aret hx hb hr2 hk.2 hv (fun t9 ht9 _ => hE t9 ht9) h6.2.2 hd hlocks
    · cases h
  | dreturn =>
    simp only [ri_ctl] at h
    split at h
    · next h3 =>
      subst h3
      obtain ⟨t, rfl, hok9, rfl⟩ := ri_ans_s h
      intro ad ls H locs cells slots h1 h2 h3 h4 h5 h6 h7 h8 h9 h10 h11 h12 h13 h14
      have hE := fun t9 (ht9 : t9.heap = H) => ri_end (args := args) (tm := some t) (cs := cs) (t := t9) h1 h2 h4 h5 h6 h7 (fun z hz => by cases hz; exact h9 t List.mem_cons_self) h10 (h11 _ List.mem_cons_self) ht9
      refine vx_ret (W.widen h12 h13 ?_)
      cases hrt : ri_rt M with
      | none => rw [hrt] at hok9; exact absurd hok9 (by simp [ri_okD])
      | some ty =>
        rw [hrt] at hok9
        have hr2 := hr.trans hrt
        cases ty with
        | double =>
          have hk : ri_k t = 4 := by simpa [ri_okD] using hok9
          obtain ⟨b9, hb9⟩ := ri_Dd (ρ := ρ) (sa := sa) (ad := ad) hk
          simp only [List.map_cons, List.map_nil, Option.map_some] at hE ⊢
          rw [hb9] at hE ⊢
          exact W.dret hx hb hr2 (fun t9 ht9 _ => hE t9 ht9) h6.2.2 hd hlocks
        | _ => exact absurd hok9 (by simp [ri_okD])
    · cases h
  | freturn =>
    simp only [ri_ctl] at h
    split at h
    · next h3 =>
      subst h3
      obtain ⟨t, rfl, hok9, rfl⟩ := ri_ans_s h
      intro ad ls H locs cells slots h1 h2 h3 h4 h5 h6 h7 h8 h9 h10 h11 h12 h13 h14
      have hE := fun t9 (ht9 : t9.heap = H) => ri_end (args := args) (tm := some t) (cs := cs) (t := t9) h1 h2 h4 h5 h6 h7 (fun z hz => by cases hz; exact h9 t List.mem_cons_self) h10 (h11 _ List.mem_cons_self) ht9
      refine vx_ret (W.widen h12 h13 ?_)
      cases hrt : ri_rt M with
      | none => rw [hrt] at hok9; exact absurd hok9 (by simp [ri_okF])
      | some ty =>
        rw [hrt] at hok9
        have hr2 := hr.trans hrt
        cases ty with
        | float =>
          have hk : ri_k t = 5 := by simpa [ri_okF] using hok9
          obtain ⟨b9, hb9⟩ := ri_Ff (ρ := ρ) (sa := sa) (ad := ad) hk
          simp only [List.map_cons, List.map_nil, Option.map_some] at hE ⊢
          rw [hb9] at hE ⊢
          exact W.fret hx hb hr2 (fun t9 ht9 _ => hE t9 ht9) h6.2.2 hd hlocks
        | _ => exact absurd hok9 (by simp [ri_okF])
    · cases h
  | return_ =>
    simp only [ri_ctl] at h
    split at h
    · next hrt =>
      split at h
      · next h3 =>
        subst h3
        cases h
        intro ad ls H locs cells slots h1 h2 h3 h4 h5 h6 h7 h8 h9 h10 h11 h12 h13 h14
        have hE := fun t9 (ht9 : t9.heap = H) => ri_end (args := args) (tm := none) (cs := cs) (t := t9) h1 h2 h4 h5 h6 h7 (fun z hz => by cases hz) h10 (h11 _ List.mem_cons_self) ht9
        refine vx_ret (W.widen h12 h13 ?_)
        exact W.vret hx hb (hr.trans hrt) (fun t9 ht9 _ => hE t9 ht9) h6.2.2 hd hlocks
      · cases h
    · cases h
  | new ik =>
    simp only [ri_ctl] at h
    split at h
    · next h3 =>
      subst h3
      exact ri_thr_W hC0 hcode h hd
    · cases h
  | invokevirtual idx =>
    simp only [ri_ctl] at h
    split at h
    · next h3 =>
      subst h3
      exact ri_inv_W 0 hC0 hK hcall (fun _ => hd) (fun q => by cases q) (fun q => by cases q) (by decide) h
    · cases h
  | invokestatic idx =>
    simp only [ri_ctl] at h
    split at h
    · next h3 =>
      subst h3
      exact ri_inv_W 1 hC0 hK hcall (fun q => by cases q) (fun _ => hd) (fun q => by cases q) (by decide) h
    · cases h
  | invokespecial idx =>
    simp only [ri_ctl] at h
    split at h
    · next h3 =>
      subst h3
      exact ri_inv_W 2 hC0 hK hcall (fun q => by cases q) (fun q => by cases q) (fun _ => hd) (by decide) h
    · cases h
  | _ => exact absurd h (by simp [ri_ctl])
theorem ri_heap_W {x : ri_H1} {i : Instr} {ad : Nat → Nat} {ls : Array Slot} {H : Heap} {locs : List Loc} {cells slots : Nat} {Q : State → Prop} (hac : ∀ t : ArrayType, ri_isI (newarray.typeOf t) = true → Jvm.Cond.arrayClass (newarray.typeOf t) ∈ ALL) (hC : ri_Ctx ALL STR sa G M D tyc A p s m args meth c) (h : ri_heap G M cs i st mem = some x) (hd : decode (ri_by M) pc = .ok (i, x.1)) (hP : va_P D (ri_cls G) (ri_w ρ sa (ri_aty G) tyc ad mem) H) (hD : va_D A (ri_w ρ sa (ri_aty G) tyc ad mem)) (hS : va_S A s.heap H locs) (hok : ri_okM mem.length mem) (hst : ∀ t ∈ st, ri_ok mem.length t)
    (hsat : ∀ q ∈ cs, ri_sat ρ q) (hob : ∀ o ∈ x.2.2.2.2.2, ri_obs ρ o) (hls : ls.size = ri_mx M) (hR1 : 1 ≤ R.frames) (hR2 : 100 ≤ R.locals) (hc1 : cells + x.2.2.2.1 ≤ R.cells) (hs1 : slots + x.2.2.2.2.1 ≤ R.slots)
    (kk : ri_KK p l e R s m args below meth c cells slots Q G D tyc A ρ sa ad mem ls pc x) : W p l e R s m args below meth c H locs cells slots Q (F0 m pc ls (st.map (ri_cv ρ sa ad))) := by
  have hlk := hC.2.2.2.1
  have hM := hC.2.1
  cases i with
  | getfield idx => exact ri_getf_W hC h hd hP hD hS hok hst kk
  | putfield idx => exact ri_putf_W hC h hd hP hD hS hok hst kk
  | iaload => exact ri_iald_W hC h hd hP hD hS hok hst hsat hob kk
  | iastore => exact ri_iast_W hC h hd hP hD hS hok hst kk
  | laload => exact ri_lald_W hC h hd hP hD hS hok hst kk
  | lastore => exact ri_last_W hC h hd hP hD hS hok hst kk
  | ldc2_w idx => exact ri_ldc2_W hC h hd hP hD hS hok hst kk
  | aaload => exact ri_aald_W hC h hd hP hD hS hok hst kk
  | aastore => exact ri_aast_W hC h hd hP hD hS hok hst kk
  | arraylength => exact ri_alen_W hC h hd hP hD hS hok hst kk
  | new idx => exact ri_newo_W hC h hd hP hD hS hok hst hc1 hs1 kk
  | newarray t =>
    have h0 : ri_newr G (ri_typeOf t) 2 st mem = some x := h
    obtain ⟨v, r, a, e1, e2, hi, e3, e4, rfl⟩ := ri_newr_s h0
    exact ri_newa_W hC (hac t hi) h0 hd hP hD hS hok hst hc1 hs1 kk
  | anewarray idx =>
    simp only [ri_heap] at h
    split at h
    · next a b tx hcp =>
      obtain ⟨C, g1, g2, g3⟩ := ri_cp_s hlk hM hcp
      rw [Nat.add_sub_cancel] at g2
      rw [g1] at h
      have h0 : ri_newr G (.object C) 3 st mem = some x := h
      obtain ⟨v, r, a2, e1, e2, hi, e3, e4, rfl⟩ := ri_newr_s h0
      exact ri_newq_W (a := a) (ty := .object C) hC g2 g3 h0 hd hP hD hS hok hst hc1 hs1 kk
    · cases h
  | ldc idx => exact ri_ldc_W hC h hd hP hD hS hok hst kk
  | invokestatic idx =>
    simp only [ri_heap] at h
    split at h
    · next a b tx hcp =>
      exact ri_acpy_W hC (ri_cp_s hlk hM hcp) h hd hP hD hS hok hst hls hR1 hR2 kk
    · cases h
  | _ => exact absurd h (by simp [ri_heap])
theorem ri_bin_ok {n : Nat} {f : Int32 → Int32 → Int32} {t a b : Jvm.Term} (h : ri_ok n t) : ri_ok n (ri_bin f t a b) := by
  unfold ri_bin
  split
  · rw [ri_ci_eq]; trivial
  · exact h
theorem ri_binL_ok {n : Nat} {f : Int64 → Int64 → Int64} {t a b : Jvm.Term} (h : ri_ok n t) : ri_ok n (ri_binL f t a b) := by
  unfold ri_binL
  split
  · rw [ri_cl_eq]; trivial
  · exact h
theorem ri_binC_ok {n : Nat} {t a b : Jvm.Term} (h : ri_ok n t) : ri_ok n (ri_binC t a b) := by
  unfold ri_binC
  split
  · rw [ri_ci_eq]; trivial
  · exact h
theorem ri_un_ok {n : Nat} {f : Int32 → Int32} {t a : Jvm.Term} (h : ri_ok n t) : ri_ok n (ri_un f t a) := by
  unfold ri_un
  split
  · rw [ri_ci_eq]; trivial
  · exact h
theorem ri_unIL_ok {n : Nat} {f : Int32 → Int64} {t a : Jvm.Term} (h : ri_ok n t) : ri_ok n (ri_unIL f t a) := by
  unfold ri_unIL
  split
  · rw [ri_cl_eq]; trivial
  · exact h
theorem ri_unLI_ok {n : Nat} {f : Int64 → Int32} {t a : Jvm.Term} (h : ri_ok n t) : ri_ok n (ri_unLI f t a) := by
  unfold ri_unLI
  split
  · rw [ri_ci_eq]; trivial
  · exact h
theorem ri_ci_ok {n : Nat} {x : Int32} : ri_ok n (ri_ci x) := by rw [ri_ci_eq]; trivial
theorem ri_cl_ok {n : Nat} {x : Int64} : ri_ok n (ri_cl x) := by rw [ri_cl_eq]; trivial
theorem ri_all_cons {n : Nat} {t : Jvm.Term} {st : List Jvm.Term} (h : ri_ok n t) (hs : ∀ z ∈ st, ri_ok n z) : ∀ z ∈ t :: st, ri_ok n z := fun z hz => by
  rcases List.mem_cons.mp hz with rfl | hz
  · exact h
  · exact hs z hz
theorem ri_all_tl {n : Nat} {t : Jvm.Term} {st : List Jvm.Term} (hs : ∀ z ∈ t :: st, ri_ok n z) : ∀ z ∈ st, ri_ok n z := fun z hz => hs z (List.mem_cons_of_mem _ hz)
theorem ri_sto_ok {n i : Nat} {lv : List (Nat × Jvm.Term)} {t : Jvm.Term} (h : ri_ok n t) (hs : ∀ q ∈ lv, ri_ok n q.2) : ∀ q ∈ ri_sto lv i t, ri_ok n q.2 := fun q hq => by
  rcases List.mem_cons.mp hq with rfl | hq
  · exact h
  · exact hs q (List.mem_filter.mp hq).1
theorem ri_sto2_ok {n i : Nat} {lv : List (Nat × Jvm.Term)} {t : Jvm.Term} (h : ri_ok n t) (hs : ∀ q ∈ lv, ri_ok n q.2) : ∀ q ∈ ri_sto2 lv i t, ri_ok n q.2 := fun q hq => by
  rcases List.mem_cons.mp hq with rfl | hq
  · exact h
  · exact hs q (List.mem_filter.mp hq).1
theorem ri_pure_ok {nL : Nat} {i : Instr} {lv lv' : List (Nat × Jvm.Term)} {st st' : List Jvm.Term} {n len : Nat} (h : ri_pure nL i lv st = some (len, lv', st')) (hlv : ∀ q ∈ lv, ri_ok n q.2) (hst : ∀ t ∈ st, ri_ok n t) : (∀ q ∈ lv', ri_ok n q.2) ∧ ∀ t ∈ st', ri_ok n t := by
  have LD : ∀ {k t}, ri_ld lv k = some t → ri_ok n t := fun h => hlv _ (ri_ld_mem h)
  cases i with
  | iconst k => cases h; exact ⟨hlv, ri_all_cons ri_ci_ok hst⟩
  | bipush k => cases h; exact ⟨hlv, ri_all_cons ri_ci_ok hst⟩
  | sipush k => cases h; exact ⟨hlv, ri_all_cons ri_ci_ok hst⟩
  | lconst k => cases h; exact ⟨hlv, ri_all_cons ri_cl_ok hst⟩
  | aconst_null => cases h; exact ⟨hlv, ri_all_cons trivial hst⟩
  | iload k => obtain ⟨t, h1, h2, rfl, rfl, rfl⟩ := ri_pl_s h; exact ⟨hlv, ri_all_cons (LD h1) hst⟩
  | iload_n k => obtain ⟨t, h1, h2, rfl, rfl, rfl⟩ := ri_pl_s h; exact ⟨hlv, ri_all_cons (LD h1) hst⟩
  | lload k => obtain ⟨t, h1, h2, rfl, rfl, rfl⟩ := ri_pl_s h; exact ⟨hlv, ri_all_cons (LD h1) hst⟩
  | lload_n k => obtain ⟨t, h1, h2, rfl, rfl, rfl⟩ := ri_pl_s h; exact ⟨hlv, ri_all_cons (LD h1) hst⟩
  | aload k => obtain ⟨t, h1, h2, rfl, rfl, rfl⟩ := ri_pa_s h; exact ⟨hlv, ri_all_cons (LD h1) hst⟩
  | aload_n k => obtain ⟨t, h1, h2, rfl, rfl, rfl⟩ := ri_pa_s h; exact ⟨hlv, ri_all_cons (LD h1) hst⟩
  | istore k => obtain ⟨t, rfl, h2, h3, rfl, rfl⟩ := ri_ps_s h; exact ⟨ri_sto_ok (hst t List.mem_cons_self) hlv, ri_all_tl hst⟩
  | istore_n k => obtain ⟨t, rfl, h2, h3, rfl, rfl⟩ := ri_ps_s h; exact ⟨ri_sto_ok (hst t List.mem_cons_self) hlv, ri_all_tl hst⟩
  | lstore k => obtain ⟨t, rfl, h2, h3, rfl, rfl⟩ := ri_ps2_s h; exact ⟨ri_sto2_ok (hst t List.mem_cons_self) hlv, ri_all_tl hst⟩
  | lstore_n k => obtain ⟨t, rfl, h2, h3, rfl, rfl⟩ := ri_ps2_s h; exact ⟨ri_sto2_ok (hst t List.mem_cons_self) hlv, ri_all_tl hst⟩
  | astore k => obtain ⟨t, rfl, h2, h3, rfl, rfl⟩ := ri_psa_s h; exact ⟨ri_sto_ok (hst t List.mem_cons_self) hlv, ri_all_tl hst⟩
  | astore_n k => obtain ⟨t, rfl, h2, h3, rfl, rfl⟩ := ri_psa_s h; exact ⟨ri_sto_ok (hst t List.mem_cons_self) hlv, ri_all_tl hst⟩
  | iinc k v => obtain ⟨t, h1, h2, h3, rfl, rfl, rfl⟩ := ri_inc_s h; exact ⟨ri_sto_ok (ri_bin_ok trivial) hlv, hst⟩
  | iadd => obtain ⟨a, b, r, rfl, ha, hb2, rfl, rfl, rfl⟩ := ri_s2_s h; exact ⟨hlv, ri_all_cons (ri_bin_ok trivial) (ri_all_tl (ri_all_tl hst))⟩
  | isub => obtain ⟨a, b, r, rfl, ha, hb2, rfl, rfl, rfl⟩ := ri_s2_s h; exact ⟨hlv, ri_all_cons (ri_bin_ok trivial) (ri_all_tl (ri_all_tl hst))⟩
  | imul => obtain ⟨a, b, r, rfl, ha, hb2, rfl, rfl, rfl⟩ := ri_s2_s h; exact ⟨hlv, ri_all_cons (ri_bin_ok trivial) (ri_all_tl (ri_all_tl hst))⟩
  | idiv => obtain ⟨a, b, r, rfl, ha, hz, rfl, rfl, rfl⟩ := ri_sd_s h; exact ⟨hlv, ri_all_cons (ri_bin_ok trivial) (ri_all_tl (ri_all_tl hst))⟩
  | irem => obtain ⟨a, b, r, rfl, ha, hz, rfl, rfl, rfl⟩ := ri_sd_s h; exact ⟨hlv, ri_all_cons (ri_bin_ok trivial) (ri_all_tl (ri_all_tl hst))⟩
  | iand => obtain ⟨a, b, r, rfl, ha, hb2, rfl, rfl, rfl⟩ := ri_s2_s h; exact ⟨hlv, ri_all_cons (ri_bin_ok trivial) (ri_all_tl (ri_all_tl hst))⟩
  | ior => obtain ⟨a, b, r, rfl, ha, hb2, rfl, rfl, rfl⟩ := ri_s2_s h; exact ⟨hlv, ri_all_cons (ri_bin_ok trivial) (ri_all_tl (ri_all_tl hst))⟩
  | ixor => obtain ⟨a, b, r, rfl, ha, hb2, rfl, rfl, rfl⟩ := ri_s2_s h; exact ⟨hlv, ri_all_cons (ri_bin_ok trivial) (ri_all_tl (ri_all_tl hst))⟩
  | ishl => obtain ⟨a, b, r, rfl, ha, hb2, rfl, rfl, rfl⟩ := ri_s2_s h; exact ⟨hlv, ri_all_cons (ri_bin_ok trivial) (ri_all_tl (ri_all_tl hst))⟩
  | ishr => obtain ⟨a, b, r, rfl, ha, hb2, rfl, rfl, rfl⟩ := ri_s2_s h; exact ⟨hlv, ri_all_cons (ri_bin_ok trivial) (ri_all_tl (ri_all_tl hst))⟩
  | iushr => obtain ⟨a, b, r, rfl, ha, hb2, rfl, rfl, rfl⟩ := ri_s2_s h; exact ⟨hlv, ri_all_cons (ri_bin_ok trivial) (ri_all_tl (ri_all_tl hst))⟩
  | ineg => obtain ⟨a, r, rfl, ha, rfl, rfl, rfl⟩ := ri_s1_s h; exact ⟨hlv, ri_all_cons (ri_un_ok trivial) (ri_all_tl hst)⟩
  | i2l => obtain ⟨a, r, rfl, ha, rfl, rfl, rfl⟩ := ri_s1_s h; exact ⟨hlv, ri_all_cons (ri_unIL_ok trivial) (ri_all_tl hst)⟩
  | l2i => obtain ⟨a, r, rfl, ha, rfl, rfl, rfl⟩ := ri_s1_s h; exact ⟨hlv, ri_all_cons (ri_unLI_ok trivial) (ri_all_tl hst)⟩
  | ladd => obtain ⟨a, b, r, rfl, ha, hb2, rfl, rfl, rfl⟩ := ri_s2_s h; exact ⟨hlv, ri_all_cons (ri_binL_ok trivial) (ri_all_tl (ri_all_tl hst))⟩
  | lsub => obtain ⟨a, b, r, rfl, ha, hb2, rfl, rfl, rfl⟩ := ri_s2_s h; exact ⟨hlv, ri_all_cons (ri_binL_ok trivial) (ri_all_tl (ri_all_tl hst))⟩
  | lcmp => obtain ⟨a, b, r, rfl, ha, hb2, rfl, rfl, rfl⟩ := ri_s2_s h; exact ⟨hlv, ri_all_cons (ri_binC_ok trivial) (ri_all_tl (ri_all_tl hst))⟩
  | dup => obtain ⟨a, r, rfl, ha, rfl, rfl, rfl⟩ := ri_dup_s h; exact ⟨hlv, ri_all_cons (hst a List.mem_cons_self) hst⟩
  | dup_x1 => obtain ⟨a, b, r, rfl, ha, hb2, rfl, rfl, rfl⟩ := ri_dup_x1_s h; exact ⟨hlv, ri_all_cons (hst a List.mem_cons_self) (ri_all_cons (ri_all_tl hst b List.mem_cons_self) (ri_all_cons (hst a List.mem_cons_self) (ri_all_tl (ri_all_tl hst))))⟩
  | dup2 => obtain ⟨a, b, r, rfl, ha, hb2, rfl, rfl, rfl⟩ := ri_dup2_s h; exact ⟨hlv, ri_all_cons (hst a List.mem_cons_self) (ri_all_cons (ri_all_tl hst b List.mem_cons_self) hst)⟩
  | pop => obtain ⟨a, rfl, ha, rfl, rfl⟩ := ri_pop_s h; exact ⟨hlv, ri_all_tl hst⟩
  | _ => exact absurd h (by simp [ri_pure])
theorem ri_run_W (hac : ∀ t : ArrayType, ri_isI (newarray.typeOf t) = true → Jvm.Cond.arrayClass (newarray.typeOf t) ∈ ALL) (hC : ri_Cx l ALL STR sa G M D tyc A p s m args meth c R LC d mcT msT)
    (hcall : ∀ mi as cs mem rs, call mi as cs mem = some rs → ri_Con l ALL STR G LC d mi as cs mem rs) (hcode : ∀ pc i len, (ri_co M)[pc]? = some (some (i, len)) → decode (ri_by M) pc = .ok (i, len)) :
    ∀ (f pc : Nat) (lv : List (Nat × Jvm.Term)) (st : List Jvm.Term) (cs : List ri_Cd) (mem : ri_Me) (rs : ri_Rs), ri_run G call M f pc lv st cs mem = some rs → ri_So p l e R s m args below meth c G M D tyc A ρ sa n0 ad0 LT mcT msT pc lv st cs mem rs := by
  intro f
  induction f with
  | zero => intro pc lv st cs mem rs h; rw [ri_run_0] at h; cases h
  | succ f ih =>
    intro pc lv st cs mem rs h
    have hC0 := hC
    obtain ⟨⟨⟨hx, hb, hml, hown, hin⟩, hM, hcl, hlk, hts, hKK, hA, hstr⟩, hSt, hwm, hr, hlocks, hex, hl, rfl, hLC, hco⟩ := hC
    rw [ri_run_S] at h
    unfold ri_one at h
    split at h
    · next i len hi =>
      have hd := hcode _ _ _ hi
      split at h
      · next len' lv' st' hp =>
        split at h
        · next hlen =>
          subst hlen
          intro ad ls H locs cells slots h1 h2 h3 h4 h5 h6 h7 h8 h9 h10 h11 h12 h13 h14
          obtain ⟨k1, k2⟩ := ri_pure_ok hp h8 h9
          exact ri_pure_W hx hb hp hd h3 (fun ls' hl' => ih _ _ _ _ _ _ h ad ls' H locs cells slots h1 h2 hl' h4 h5 h6 h7 k1 k2 h10 h11 h12 h13 h14)
        · cases h
      · split at h
        · next x hhp =>
          split at h
          · next hlen =>
            subst hlen
            obtain ⟨r2, g1, g2, g3, g4, g5⟩ := ri_more_s h
            intro ad ls H locs cells slots h1 h2 h3 h4 h5 h6 h7 h8 h9 h10 h11 h12 h13 h14
            rw [g3] at h12
            rw [g4] at h13
            rw [g5] at h14
            refine ri_heap_W hac hC0.1 hhp hd h4 h5 h6 h7 h9 h10 (fun o ho => h14 o (List.mem_append_left _ ho)) h3.1 (by show 1 ≤ d + 1 + 5; omega) (by show 100 ≤ 150 + (d + 1) * LC; omega) (by show _ ≤ mcT; omega) (by show _ ≤ msT; omega) ?_
            intro ad' H' locs' a1 a2 a3 a4 a5 a6 a7
            exact ih _ _ _ _ _ _ g1 ad' ls H' locs' (cells + x.2.2.2.1) (slots + x.2.2.2.2.1) (ri_ag_tr h1 a1 h2) (Nat.le_trans h2 a6) (by rw [ri_lc_ag h8 a1]; exact h3) a2 a3 a4 a5 (fun q hq => ri_ok_mono (h8 q hq) a6) a7 h10 (fun z hz => h11 z (by rw [g2]; exact hz)) (by omega) (by omega) (fun o ho => h14 o (List.mem_append_right _ ho))
          · cases h
        · exact ri_ctl_W hC0 (fun pc lv st cs mem rs hh => ih pc lv st cs mem rs hh) hcall hcode hd h
    · cases h
theorem ri_args_lc {ad : Nat → Nat} : ∀ (as : List Jvm.Term) (i : Nat), ri_lc ρ sa ad (ri_args i as) = lv_args i (as.map (ri_cv ρ sa ad))
  | [], i => rfl
  | t :: ts, i => by
    show (i, ri_cv ρ sa ad t) :: ri_lc ρ sa ad (ri_args (if ri_wide t = true then i + 2 else i + 1) ts) = (i, ri_cv ρ sa ad t) :: lv_args (if (ri_cv ρ sa ad t).category = 2 then i + 2 else i + 1) (ts.map (ri_cv ρ sa ad))
    rw [ri_args_lc ts]
    by_cases h : ri_wide t = true
    · rw [if_pos h, if_pos (ri_cat2.mpr h)]
    · rw [if_neg h, if_neg (fun z => h (ri_cat2.mp z))]
theorem ri_args_ok {n : Nat} : ∀ (as : List Jvm.Term) (i : Nat), (∀ t ∈ as, ri_ok n t) → ∀ q ∈ ri_args i as, ri_ok n q.2
  | [], i, h, q, hq => by cases hq
  | t :: ts, i, h, q, hq => by
    rcases List.mem_cons.mp hq with rfl | hq
    · exact h t List.mem_cons_self
    · exact ri_args_ok ts _ (ri_all_tl h) q hq
theorem ri_args_len {ad : Nat → Nat} : ∀ (as : List Jvm.Term), (lg_sl (as.map (ri_cv ρ sa ad))).length = (as.map (fun t => if ri_wide t = true then 2 else 1)).sum
  | [] => rfl
  | t :: ts => by
    have ih := ri_args_len (ad := ad) ts
    unfold lg_sl at ih ⊢
    rw [List.map_cons, List.flatMap_cons, List.length_append, ih, List.map_cons, List.sum_cons]
    by_cases h : ri_wide t = true
    · rw [if_pos h, if_pos (ri_cat2.mpr h)]; rfl
    · rw [if_neg h, if_neg (fun z => h (ri_cat2.mp z))]; rfl
/-- what a program must show of its tables -/
def ri_TB (ALL : List Jvm.Cond) (STR : List (String × Nat × String)) (G : ri_Tb) (LC : Nat) : Prop := ri_clOK ALL G ∧ ri_lkOK ALL STR G ∧ (∀ w ∈ ALL, ri_warm w = true) ∧ (∀ i ∈ ri_mts G, 19 + ri_mx i ≤ LC) ∧ (∀ M2 ∈ ri_mts G, ri_own M2 = (ri_nm M2).cls ∧ Jvm.Cond.code (ri_nm M2) (ri_by M2) (ri_mx M2) (ri_rt M2) ∈ ALL ∧ goodWord (Jvm.Cond.code (ri_nm M2) (ri_by M2) (ri_mx M2) (ri_rt M2)) = true ∧ Jvm.Cond.initialized (ri_nm M2).cls ∈ ALL ∧ Bundle.fit (ri_nm M2).cls = true) ∧ (∀ t : ArrayType, ri_isI (newarray.typeOf t) = true → Jvm.Cond.arrayClass (newarray.typeOf t) ∈ ALL) ∧ (∀ M ∈ ri_mts G, ∀ pc i len, (ri_co M)[pc]? = some (some (i, len)) → decode (ri_by M) pc = .ok (i, len))
/-- EACH CALL THAT RUNS THROUGH HAS ITS CONTRACT -/
theorem ri_call_W {fuel : Nat} (hl : l.stackTraces = false) (hT : ri_TB ALL STR G LC) : ∀ (k mi : Nat) (as : List Jvm.Term) (cs : List ri_Cd) (mem : ri_Me) (rs : ri_Rs), ri_call G fuel k mi as cs mem = some rs → ri_Con l ALL STR G LC k mi as cs mem rs := by
  obtain ⟨hcl, hlk, hwm, hLC, hco, hac, hcode⟩ := hT
  intro k
  induction k with
  | zero => intro mi as cs mem rs h; rw [ri_call_0] at h; cases h
  | succ k ih =>
    intro mi as cs mem rs h M hM D tyc ρ sa ad sz hsat hok hargs hob
    rw [ri_call_S] at h
    rw [hM] at h
    dsimp only at h
    split at h
    · next hlen =>
      have hMm := List.mem_of_getElem? hM
      obtain ⟨c0, c1, c2, c3, c4⟩ := hco M hMm
      refine vx_ofW (cc := ri_by M) (maxL := ri_mx M) (ret := ri_rt M) (Bundle.fit_spec c4).1 rfl ?_
      intro p e s m args below meth c s₁ B hml hex hPc
      obtain ⟨rfl, hsz, hP, hD0, hSt⟩ := hPc
      have hD : va_D (va_A (ri_w ρ sa (ri_aty G) tyc ad mem) sz) (ri_w ρ sa (ri_aty G) tyc ad mem) := hD0.self
      have hown : s.vm.findClass (ri_own M) = some m.cls := by rw [c0]; exact findClass_of_methodNamed B.named
      have hA : ∀ q, s.heap.size ≤ q → va_A (ri_w ρ sa (ri_aty G) tyc ad mem) sz q := fun q h => Or.inr (by rw [← hsz]; exact h)
      have hC : ri_Cx l ALL STR sa G M D tyc (va_A (ri_w ρ sa (ri_aty G) tyc ad mem) sz) p s m (as.map (ri_cv ρ sa ad)).toArray meth c (ri_rm (k + 1) LC rs.2.1 rs.2.2.1) LC k rs.2.1 rs.2.2.1 :=
        ⟨⟨⟨B.exec, B.bytes, hml, hown, fun h => (name_of_methodNamed B.named B.method).1.trans h⟩, hMm, hcl, hlk, fun w hw => hSt.1 w hw _, hSt.2.1, hA, hSt.2.2.1⟩, hSt, hwm, B.returns, B.notSynchronized, hex, hl, rfl, hLC, hco⟩
      have hgo := ri_run_W (ρ := ρ) (below := below) (e := e) (n0 := mem.length) (ad0 := ad) (LT := rs.1) hac hC (fun mi as cs mem rs h => ih mi as cs mem rs h) (hcode M hMm) fuel 0 (ri_args 0 as) [] cs mem rs h
      have hl0 := lv_entry (as.map (ri_cv ρ sa ad)) (n := ri_mx M) (by rw [ri_args_len]; exact hlen)
      rw [lg_entry_eq]
      rw [← ri_args_lc as 0] at hl0
      exact hgo ad _ s.heap [] 0 0 ri_ag_rf (Nat.le_refl _) hl0 hP hD va_S.rf hok (ri_args_ok as 0 hargs) (fun t ht => by cases ht) hsat (fun x hx => hx) (by rw [Nat.zero_add]; exact Nat.le_refl _) (by rw [Nat.zero_add]; exact Nat.le_refl _) hob
    · cases h
end RIZ1
end RIZ
end
section
/-! names of the program (out of the printed ones) -/
def RX0 : String := "PartitionBench$Disk"
abbrev cX0_init : ByteArray := prog_2_method_1_code
def yX0_init : MethodName := ⟨RX0, "<init>", "()V"⟩
abbrev cX0_clear : ByteArray := prog_2_method_2_code
def yX0_clear : MethodName := ⟨RX0, "clear", "(I)V"⟩
abbrev cX0_copyFrom : ByteArray := prog_2_method_3_code
def yX0_copyFrom : MethodName := ⟨RX0, "copyFrom", "(LPartitionBench$Disk;)V"⟩
abbrev cX0_find : ByteArray := prog_2_method_4_code
def yX0_find : MethodName := ⟨RX0, "find", "(I)LPartitionBench$Part;"⟩
abbrev cX0_standing : ByteArray := prog_2_method_5_code
def yX0_standing : MethodName := ⟨RX0, "standing", "()I"⟩
abbrev cX0_takenByParts : ByteArray := prog_2_method_6_code
def yX0_takenByParts : MethodName := ⟨RX0, "takenByParts", "()I"⟩
abbrev cX0_nextBehind : ByteArray := prog_2_method_7_code
def yX0_nextBehind : MethodName := ⟨RX0, "nextBehind", "(I)LPartitionBench$Part;"⟩
abbrev cX0_isMoved : ByteArray := prog_2_method_8_code
def yX0_isMoved : MethodName := ⟨RX0, "isMoved", "(LPartitionBench$Part;)Z"⟩
abbrev cX0_isFree : ByteArray := prog_2_method_9_code
def yX0_isFree : MethodName := ⟨RX0, "isFree", "(LPartitionBench$Part;)Z"⟩
abbrev cX0_usableEnd : ByteArray := prog_2_method_10_code
def yX0_usableEnd : MethodName := ⟨RX0, "usableEnd", "()I"⟩
abbrev cX0_isUsable : ByteArray := prog_2_method_11_code
def yX0_isUsable : MethodName := ⟨RX0, "isUsable", "(JJ)Z"⟩
abbrev cX0_isAligned : ByteArray := prog_2_method_12_code
def yX0_isAligned : MethodName := ⟨RX0, "isAligned", "(I)Z"⟩
abbrev cX0_meeting : ByteArray := prog_2_method_13_code
def yX0_meeting : MethodName := ⟨RX0, "meeting", "(JJ)I"⟩
abbrev cX0_meetingOthers : ByteArray := prog_2_method_14_code
def yX0_meetingOthers : MethodName := ⟨RX0, "meetingOthers", "(LPartitionBench$Part;II)I"⟩
abbrev cX0_endOfTaken : ByteArray := prog_2_method_15_code
def yX0_endOfTaken : MethodName := ⟨RX0, "endOfTaken", "(I)I"⟩
abbrev cX0_nextTaken : ByteArray := prog_2_method_16_code
def yX0_nextTaken : MethodName := ⟨RX0, "nextTaken", "(I)I"⟩
abbrev cX0_whyNotTake : ByteArray := prog_2_method_17_code
def yX0_whyNotTake : MethodName := ⟨RX0, "whyNotTake", "(II)I"⟩
abbrev cX0_whyNotSize : ByteArray := prog_2_method_18_code
def yX0_whyNotSize : MethodName := ⟨RX0, "whyNotSize", "(LPartitionBench$Part;I)I"⟩
abbrev cX0_whyNoRoomFor : ByteArray := prog_2_method_19_code
def yX0_whyNoRoomFor : MethodName := ⟨RX0, "whyNoRoomFor", "(LPartitionBench$Part;I)I"⟩
abbrev cX0_whyNotMove : ByteArray := prog_2_method_20_code
def yX0_whyNotMove : MethodName := ⟨RX0, "whyNotMove", "(LPartitionBench$Part;II)I"⟩
abbrev cX0_needsScratch : ByteArray := prog_2_method_21_code
def yX0_needsScratch : MethodName := ⟨RX0, "needsScratch", "(LPartitionBench$Part;II)Z"⟩
abbrev cX0_scratchFor : ByteArray := prog_2_method_22_code
def yX0_scratchFor : MethodName := ⟨RX0, "scratchFor", "(LPartitionBench$Part;II)I"⟩
abbrev cX0_startInTheWay : ByteArray := prog_2_method_23_code
def yX0_startInTheWay : MethodName := ⟨RX0, "startInTheWay", "(LPartitionBench$Part;III)I"⟩
abbrev cX0_numberAt : ByteArray := prog_2_method_24_code
def yX0_numberAt : MethodName := ⟨RX0, "numberAt", "(I)I"⟩
abbrev cX0_write : ByteArray := prog_2_method_25_code
def yX0_write : MethodName := ⟨RX0, "write", "(II)V"⟩
abbrev cX0_writeBlocks : ByteArray := prog_2_method_26_code
def yX0_writeBlocks : MethodName := ⟨RX0, "writeBlocks", "(LPartitionBench$Part;I)V"⟩
abbrev cX0_placeOf : ByteArray := prog_2_method_27_code
def yX0_placeOf : MethodName := ⟨RX0, "placeOf", "(LPartitionBench$Part;I)I"⟩
abbrev cX0_holderOf : ByteArray := prog_2_method_28_code
def yX0_holderOf : MethodName := ⟨RX0, "holderOf", "(I)I"⟩
abbrev cX0_hasPlace : ByteArray := prog_2_method_29_code
def yX0_hasPlace : MethodName := ⟨RX0, "hasPlace", "(LPartitionBench$Part;I)Z"⟩
abbrev cX0_isPlaceOf : ByteArray := prog_2_method_30_code
def yX0_isPlaceOf : MethodName := ⟨RX0, "isPlaceOf", "(LPartitionBench$Part;II)Z"⟩
abbrev cX0_keepsWhole : ByteArray := prog_2_method_31_code
def yX0_keepsWhole : MethodName := ⟨RX0, "keepsWhole", "(LPartitionBench$Part;)Z"⟩
abbrev cX0_leftOverOf : ByteArray := prog_2_method_32_code
def yX0_leftOverOf : MethodName := ⟨RX0, "leftOverOf", "(LPartitionBench$Part;)I"⟩
abbrev cX0_wipeOut : ByteArray := prog_2_method_33_code
def yX0_wipeOut : MethodName := ⟨RX0, "wipeOut", "()I"⟩
abbrev cX0_make : ByteArray := prog_2_method_34_code
def yX0_make : MethodName := ⟨RX0, "make", "(IIII)I"⟩
abbrev cX0_giveSize : ByteArray := prog_2_method_35_code
def yX0_giveSize : MethodName := ⟨RX0, "giveSize", "(LPartitionBench$Part;I)V"⟩
abbrev cX0_stepsOrNone : ByteArray := prog_2_method_36_code
def yX0_stepsOrNone : MethodName := ⟨RX0, "stepsOrNone", "(LPartitionBench$Part;II)I"⟩
abbrev cX0_beginMove : ByteArray := prog_2_method_37_code
def yX0_beginMove : MethodName := ⟨RX0, "beginMove", "(LPartitionBench$Part;I)V"⟩
abbrev cX0_doSteps : ByteArray := prog_2_method_38_code
def yX0_doSteps : MethodName := ⟨RX0, "doSteps", "(I)I"⟩
abbrev cX0_doStep : ByteArray := prog_2_method_39_code
def yX0_doStep : MethodName := ⟨RX0, "doStep", "()V"⟩
abbrev cX0_tearStep : ByteArray := prog_2_method_40_code
def yX0_tearStep : MethodName := ⟨RX0, "tearStep", "()I"⟩
abbrev cX0_copySectors : ByteArray := prog_2_method_41_code
def yX0_copySectors : MethodName := ⟨RX0, "copySectors", "(III)V"⟩
abbrev cX0_endMove : ByteArray := prog_2_method_42_code
def yX0_endMove : MethodName := ⟨RX0, "endMove", "()V"⟩
abbrev cX0_turnMove : ByteArray := prog_2_method_43_code
def yX0_turnMove : MethodName := ⟨RX0, "turnMove", "()V"⟩
abbrev cX0_leastStart : ByteArray := prog_2_method_44_code
def yX0_leastStart : MethodName := ⟨RX0, "leastStart", "(LPartitionBench$Part;)I"⟩
abbrev cX0_greatestStart : ByteArray := prog_2_method_45_code
def yX0_greatestStart : MethodName := ⟨RX0, "greatestStart", "(LPartitionBench$Part;)I"⟩
abbrev cX0_packLeft : ByteArray := prog_2_method_46_code
def yX0_packLeft : MethodName := ⟨RX0, "packLeft", "()I"⟩
abbrev cX0_bringsRoom : ByteArray := prog_2_method_47_code
def yX0_bringsRoom : MethodName := ⟨RX0, "bringsRoom", "(LPartitionBench$Part;II)Z"⟩
def RX1 : String := "PartitionBench$Gaps"
abbrev cX1_init : ByteArray := prog_3_method_1_code
def yX1_init : MethodName := ⟨RX1, "<init>", "()V"⟩
abbrev cX1_find : ByteArray := prog_3_method_2_code
def yX1_find : MethodName := ⟨RX1, "find", "(LPartitionBench$Disk;)V"⟩
abbrev cX1_note : ByteArray := prog_3_method_3_code
def yX1_note : MethodName := ⟨RX1, "note", "(II)V"⟩
abbrev cX1_start : ByteArray := prog_3_method_4_code
def yX1_start : MethodName := ⟨RX1, "start", "(I)I"⟩
abbrev cX1_size : ByteArray := prog_3_method_5_code
def yX1_size : MethodName := ⟨RX1, "size", "(I)I"⟩
abbrev cX1_roomStart : ByteArray := prog_3_method_6_code
def yX1_roomStart : MethodName := ⟨RX1, "roomStart", "(I)I"⟩
abbrev cX1_room : ByteArray := prog_3_method_7_code
def yX1_room : MethodName := ⟨RX1, "room", "(I)I"⟩
abbrev cX1_sectors : ByteArray := prog_3_method_8_code
def yX1_sectors : MethodName := ⟨RX1, "sectors", "()I"⟩
abbrev cX1_sectorsOfRooms : ByteArray := prog_3_method_9_code
def yX1_sectorsOfRooms : MethodName := ⟨RX1, "sectorsOfRooms", "()I"⟩
abbrev cX1_largest : ByteArray := prog_3_method_10_code
def yX1_largest : MethodName := ⟨RX1, "largest", "()I"⟩
abbrev cX1_mostRoom : ByteArray := prog_3_method_11_code
def yX1_mostRoom : MethodName := ⟨RX1, "mostRoom", "()I"⟩
abbrev cX1_holding : ByteArray := prog_3_method_12_code
def yX1_holding : MethodName := ⟨RX1, "holding", "(I)I"⟩
abbrev cX1_startFor : ByteArray := prog_3_method_13_code
def yX1_startFor : MethodName := ⟨RX1, "startFor", "(II)I"⟩
abbrev cX1_isBetter : ByteArray := prog_3_method_14_code
def yX1_isBetter : MethodName := ⟨RX1, "isBetter", "(III)Z"⟩
def RX2 : String := "PartitionBench$History"
abbrev cX2_init : ByteArray := prog_4_method_1_code
def yX2_init : MethodName := ⟨RX2, "<init>", "()V"⟩
abbrev cX2_note : ByteArray := prog_4_method_2_code
def yX2_note : MethodName := ⟨RX2, "note", "(LPartitionBench$Disk;)V"⟩
abbrev cX2_takeBack : ByteArray := prog_4_method_3_code
def yX2_takeBack : MethodName := ⟨RX2, "takeBack", "(LPartitionBench$Disk;)Z"⟩
abbrev cX2_forget : ByteArray := prog_4_method_4_code
def yX2_forget : MethodName := ⟨RX2, "forget", "()V"⟩
def RX3 : String := "PartitionBench$Move"
abbrev cX3_init : ByteArray := prog_5_method_1_code
def yX3_init : MethodName := ⟨RX3, "<init>", "()V"⟩
abbrev cX3_copyFrom : ByteArray := prog_5_method_2_code
def yX3_copyFrom : MethodName := ⟨RX3, "copyFrom", "(LPartitionBench$Move;)V"⟩
abbrev cX3_isOn : ByteArray := prog_5_method_3_code
def yX3_isOn : MethodName := ⟨RX3, "isOn", "()Z"⟩
abbrev cX3_stop : ByteArray := prog_5_method_4_code
def yX3_stop : MethodName := ⟨RX3, "stop", "()V"⟩
abbrev cX3_lengthOf : ByteArray := prog_5_method_5_code
def yX3_lengthOf : MethodName := ⟨RX3, "lengthOf", "(I)I"⟩
abbrev cX3_isMovedChunk : ByteArray := prog_5_method_6_code
def yX3_isMovedChunk : MethodName := ⟨RX3, "isMovedChunk", "(I)Z"⟩
abbrev cX3_nextChunk : ByteArray := prog_5_method_7_code
def yX3_nextChunk : MethodName := ⟨RX3, "nextChunk", "()I"⟩
abbrev cX3_firstBlock : ByteArray := prog_5_method_8_code
def yX3_firstBlock : MethodName := ⟨RX3, "firstBlock", "()I"⟩
abbrev cX3_stepLength : ByteArray := prog_5_method_9_code
def yX3_stepLength : MethodName := ⟨RX3, "stepLength", "()I"⟩
abbrev cX3_stepKind : ByteArray := prog_5_method_10_code
def yX3_stepKind : MethodName := ⟨RX3, "stepKind", "()I"⟩
abbrev cX3_stepSource : ByteArray := prog_5_method_11_code
def yX3_stepSource : MethodName := ⟨RX3, "stepSource", "(I)I"⟩
abbrev cX3_stepTarget : ByteArray := prog_5_method_12_code
def yX3_stepTarget : MethodName := ⟨RX3, "stepTarget", "(I)I"⟩
abbrev cX3_placeOfBlock : ByteArray := prog_5_method_13_code
def yX3_placeOfBlock : MethodName := ⟨RX3, "placeOfBlock", "(I)I"⟩
abbrev cX3_blocksMoved : ByteArray := prog_5_method_14_code
def yX3_blocksMoved : MethodName := ⟨RX3, "blocksMoved", "()I"⟩
abbrev cX3_stepsLeft : ByteArray := prog_5_method_15_code
def yX3_stepsLeft : MethodName := ⟨RX3, "stepsLeft", "()I"⟩
abbrev cX3_scratchSize : ByteArray := prog_5_method_16_code
def yX3_scratchSize : MethodName := ⟨RX3, "scratchSize", "()I"⟩
abbrev cX3_keepsBusy : ByteArray := prog_5_method_17_code
def yX3_keepsBusy : MethodName := ⟨RX3, "keepsBusy", "(JJ)Z"⟩
abbrev cX3_endOfBusy : ByteArray := prog_5_method_18_code
def yX3_endOfBusy : MethodName := ⟨RX3, "endOfBusy", "(I)I"⟩
abbrev cX3_nextBusy : ByteArray := prog_5_method_19_code
def yX3_nextBusy : MethodName := ⟨RX3, "nextBusy", "(II)I"⟩
def RX4 : String := "PartitionBench$Output"
abbrev cX4_init : ByteArray := prog_6_method_1_code
def yX4_init : MethodName := ⟨RX4, "<init>", "()V"⟩
abbrev cX4_empty : ByteArray := prog_6_method_2_code
def yX4_empty : MethodName := ⟨RX4, "empty", "()V"⟩
abbrev cX4_putSign : ByteArray := prog_6_method_3_code
def yX4_putSign : MethodName := ⟨RX4, "putSign", "(I)V"⟩
abbrev cX4_putNumber : ByteArray := prog_6_method_4_code
def yX4_putNumber : MethodName := ⟨RX4, "putNumber", "(I)V"⟩
abbrev cX4_putPart : ByteArray := prog_6_method_5_code
def yX4_putPart : MethodName := ⟨RX4, "putPart", "(LPartitionBench$Part;Z)V"⟩
abbrev cX4_byteAt : ByteArray := prog_6_method_6_code
def yX4_byteAt : MethodName := ⟨RX4, "byteAt", "(I)I"⟩
def RX5 : String := "PartitionBench$Part"
abbrev cX5_init : ByteArray := prog_7_method_1_code
def yX5_init : MethodName := ⟨RX5, "<init>", "(I)V"⟩
abbrev cX5_copyFrom : ByteArray := prog_7_method_2_code
def yX5_copyFrom : MethodName := ⟨RX5, "copyFrom", "(LPartitionBench$Part;)V"⟩
abbrev cX5_stands : ByteArray := prog_7_method_3_code
def yX5_stands : MethodName := ⟨RX5, "stands", "()Z"⟩
abbrev cX5_end : ByteArray := prog_7_method_4_code
def yX5_end : MethodName := ⟨RX5, "end", "()I"⟩
abbrev cX5_numberOf : ByteArray := prog_7_method_5_code
def yX5_numberOf : MethodName := ⟨RX5, "numberOf", "(I)I"⟩
abbrev cX5_meetsArea : ByteArray := prog_7_method_6_code
def yX5_meetsArea : MethodName := ⟨RX5, "meetsArea", "(JJ)Z"⟩
def RX6 : String := "PartitionBench$Setup"
abbrev cX6_init : ByteArray := prog_8_method_1_code
def yX6_init : MethodName := ⟨RX6, "<init>", "()V"⟩
abbrev cX6_hasRoomFor : ByteArray := prog_8_method_2_code
def yX6_hasRoomFor : MethodName := ⟨RX6, "hasRoomFor", "(I)Z"⟩
abbrev cX6_putBytes : ByteArray := prog_8_method_3_code
def yX6_putBytes : MethodName := ⟨RX6, "putBytes", "(I)V"⟩
abbrev cX6_parseInto : ByteArray := prog_8_method_4_code
def yX6_parseInto : MethodName := ⟨RX6, "parseInto", "(LPartitionBench$Disk;)Z"⟩
abbrev cX6_statement : ByteArray := prog_8_method_5_code
def yX6_statement : MethodName := ⟨RX6, "statement", "(LPartitionBench$Disk;)Z"⟩
abbrev cX6_layout : ByteArray := prog_8_method_6_code
def yX6_layout : MethodName := ⟨RX6, "layout", "(LPartitionBench$Disk;)Z"⟩
abbrev cX6_chunking : ByteArray := prog_8_method_7_code
def yX6_chunking : MethodName := ⟨RX6, "chunking", "(LPartitionBench$Disk;)Z"⟩
abbrev cX6_partition : ByteArray := prog_8_method_8_code
def yX6_partition : MethodName := ⟨RX6, "partition", "(LPartitionBench$Disk;)Z"⟩
abbrev cX6_locking : ByteArray := prog_8_method_9_code
def yX6_locking : MethodName := ⟨RX6, "locking", "(LPartitionBench$Disk;)Z"⟩
abbrev cX6_semicolon : ByteArray := prog_8_method_10_code
def yX6_semicolon : MethodName := ⟨RX6, "semicolon", "()Z"⟩
abbrev cX6_number : ByteArray := prog_8_method_11_code
def yX6_number : MethodName := ⟨RX6, "number", "(II)Z"⟩
abbrev cX6_fail : ByteArray := prog_8_method_12_code
def yX6_fail : MethodName := ⟨RX6, "fail", "(I)Z"⟩
abbrev cX6_byteAt : ByteArray := prog_8_method_13_code
def yX6_byteAt : MethodName := ⟨RX6, "byteAt", "(I)I"⟩
abbrev cX6_isLetter : ByteArray := prog_8_method_14_code
def yX6_isLetter : MethodName := ⟨RX6, "isLetter", "(I)Z"⟩
abbrev cX6_isDigit : ByteArray := prog_8_method_15_code
def yX6_isDigit : MethodName := ⟨RX6, "isDigit", "(I)Z"⟩
abbrev cX6_next : ByteArray := prog_8_method_16_code
def yX6_next : MethodName := ⟨RX6, "next", "()V"⟩
abbrev cX6_isWord : ByteArray := prog_8_method_17_code
def yX6_isWord : MethodName := ⟨RX6, "isWord", "(Ljava/lang/String;)Z"⟩
def RX7 : String := "PartitionBench"
abbrev cX7_init : ByteArray := prog_1_method_1_code
def yX7_init : MethodName := ⟨RX7, "<init>", "()V"⟩
abbrev cX7_appendInput : ByteArray := prog_1_method_2_code
def yX7_appendInput : MethodName := ⟨RX7, "appendInput", "(IIIII)I"⟩
abbrev cX7_truncateInput : ByteArray := prog_1_method_3_code
def yX7_truncateInput : MethodName := ⟨RX7, "truncateInput", "(I)Z"⟩
abbrev cX7_loadDisk : ByteArray := prog_1_method_4_code
def yX7_loadDisk : MethodName := ⟨RX7, "loadDisk", "()I"⟩
abbrev cX7_errorCode : ByteArray := prog_1_method_5_code
def yX7_errorCode : MethodName := ⟨RX7, "errorCode", "()I"⟩
abbrev cX7_errorOffset : ByteArray := prog_1_method_6_code
def yX7_errorOffset : MethodName := ⟨RX7, "errorOffset", "()I"⟩
abbrev cX7_count : ByteArray := prog_1_method_7_code
def yX7_count : MethodName := ⟨RX7, "count", "(I)I"⟩
abbrev cX7_part : ByteArray := prog_1_method_8_code
def yX7_part : MethodName := ⟨RX7, "part", "(II)I"⟩
abbrev cX7_sector : ByteArray := prog_1_method_9_code
def yX7_sector : MethodName := ⟨RX7, "sector", "(I)I"⟩
abbrev cX7_owner : ByteArray := prog_1_method_10_code
def yX7_owner : MethodName := ⟨RX7, "owner", "(I)I"⟩
abbrev cX7_place : ByteArray := prog_1_method_11_code
def yX7_place : MethodName := ⟨RX7, "place", "(II)I"⟩
abbrev cX7_isWhole : ByteArray := prog_1_method_12_code
def yX7_isWhole : MethodName := ⟨RX7, "isWhole", "(I)Z"⟩
abbrev cX7_byStart : ByteArray := prog_1_method_13_code
def yX7_byStart : MethodName := ⟨RX7, "byStart", "(I)I"⟩
abbrev cX7_behind : ByteArray := prog_1_method_14_code
def yX7_behind : MethodName := ⟨RX7, "behind", "(I)I"⟩
abbrev cX7_overlapped : ByteArray := prog_1_method_15_code
def yX7_overlapped : MethodName := ⟨RX7, "overlapped", "(II)I"⟩
abbrev cX7_used : ByteArray := prog_1_method_16_code
def yX7_used : MethodName := ⟨RX7, "used", "()D"⟩
abbrev cX7_slack : ByteArray := prog_1_method_17_code
def yX7_slack : MethodName := ⟨RX7, "slack", "()I"⟩
abbrev cX7_ofKind : ByteArray := prog_1_method_18_code
def yX7_ofKind : MethodName := ⟨RX7, "ofKind", "(I)I"⟩
abbrev cX7_copies : ByteArray := prog_1_method_19_code
def yX7_copies : MethodName := ⟨RX7, "copies", "(I)I"⟩
abbrev cX7_verify : ByteArray := prog_1_method_20_code
def yX7_verify : MethodName := ⟨RX7, "verify", "()I"⟩
abbrev cX7_gap : ByteArray := prog_1_method_21_code
def yX7_gap : MethodName := ⟨RX7, "gap", "(II)I"⟩
abbrev cX7_largestGap : ByteArray := prog_1_method_22_code
def yX7_largestGap : MethodName := ⟨RX7, "largestGap", "()I"⟩
abbrev cX7_fit : ByteArray := prog_1_method_23_code
def yX7_fit : MethodName := ⟨RX7, "fit", "(II)I"⟩
abbrev cX7_waste : ByteArray := prog_1_method_24_code
def yX7_waste : MethodName := ⟨RX7, "waste", "()I"⟩
abbrev cX7_scatter : ByteArray := prog_1_method_25_code
def yX7_scatter : MethodName := ⟨RX7, "scatter", "()F"⟩
abbrev cX7_gapAt : ByteArray := prog_1_method_26_code
def yX7_gapAt : MethodName := ⟨RX7, "gapAt", "(I)I"⟩
abbrev cX7_reason : ByteArray := prog_1_method_27_code
def yX7_reason : MethodName := ⟨RX7, "reason", "(II)I"⟩
abbrev cX7_add : ByteArray := prog_1_method_28_code
def yX7_add : MethodName := ⟨RX7, "add", "(IIII)I"⟩
abbrev cX7_addBy : ByteArray := prog_1_method_29_code
def yX7_addBy : MethodName := ⟨RX7, "addBy", "(IIII)I"⟩
abbrev cX7_remove : ByteArray := prog_1_method_30_code
def yX7_remove : MethodName := ⟨RX7, "remove", "(I)I"⟩
abbrev cX7_lock : ByteArray := prog_1_method_31_code
def yX7_lock : MethodName := ⟨RX7, "lock", "(IZ)Z"⟩
abbrev cX7_resizeReason : ByteArray := prog_1_method_32_code
def yX7_resizeReason : MethodName := ⟨RX7, "resizeReason", "(II)I"⟩
abbrev cX7_resize : ByteArray := prog_1_method_33_code
def yX7_resize : MethodName := ⟨RX7, "resize", "(II)I"⟩
abbrev cX7_roundUp : ByteArray := prog_1_method_34_code
def yX7_roundUp : MethodName := ⟨RX7, "roundUp", "(I)I"⟩
abbrev cX7_setMinimum : ByteArray := prog_1_method_35_code
def yX7_setMinimum : MethodName := ⟨RX7, "setMinimum", "(II)I"⟩
abbrev cX7_growsTo : ByteArray := prog_1_method_36_code
def yX7_growsTo : MethodName := ⟨RX7, "growsTo", "(I)I"⟩
abbrev cX7_set : ByteArray := prog_1_method_37_code
def yX7_set : MethodName := ⟨RX7, "set", "(II)I"⟩
abbrev cX7_split : ByteArray := prog_1_method_38_code
def yX7_split : MethodName := ⟨RX7, "split", "(II)I"⟩
abbrev cX7_join : ByteArray := prog_1_method_39_code
def yX7_join : MethodName := ⟨RX7, "join", "(I)I"⟩
abbrev cX7_shrinkAll : ByteArray := prog_1_method_40_code
def yX7_shrinkAll : MethodName := ⟨RX7, "shrinkAll", "()I"⟩
abbrev cX7_wipe : ByteArray := prog_1_method_41_code
def yX7_wipe : MethodName := ⟨RX7, "wipe", "()I"⟩
abbrev cX7_moveReason : ByteArray := prog_1_method_42_code
def yX7_moveReason : MethodName := ⟨RX7, "moveReason", "(II)I"⟩
abbrev cX7_stepsFor : ByteArray := prog_1_method_43_code
def yX7_stepsFor : MethodName := ⟨RX7, "stepsFor", "(II)I"⟩
abbrev cX7_bestChunk : ByteArray := prog_1_method_44_code
def yX7_bestChunk : MethodName := ⟨RX7, "bestChunk", "(II)I"⟩
abbrev cX7_leftmost : ByteArray := prog_1_method_45_code
def yX7_leftmost : MethodName := ⟨RX7, "leftmost", "(I)I"⟩
abbrev cX7_rightmost : ByteArray := prog_1_method_46_code
def yX7_rightmost : MethodName := ⟨RX7, "rightmost", "(I)I"⟩
abbrev cX7_begin : ByteArray := prog_1_method_47_code
def yX7_begin : MethodName := ⟨RX7, "begin", "(II)I"⟩
abbrev cX7_run : ByteArray := prog_1_method_48_code
def yX7_run : MethodName := ⟨RX7, "run", "(I)I"⟩
abbrev cX7_tear : ByteArray := prog_1_method_49_code
def yX7_tear : MethodName := ⟨RX7, "tear", "()I"⟩
abbrev cX7_turnBack : ByteArray := prog_1_method_50_code
def yX7_turnBack : MethodName := ⟨RX7, "turnBack", "()I"⟩
abbrev cX7_move : ByteArray := prog_1_method_51_code
def yX7_move : MethodName := ⟨RX7, "move", "(I)I"⟩
abbrev cX7_blocksAt : ByteArray := prog_1_method_52_code
def yX7_blocksAt : MethodName := ⟨RX7, "blocksAt", "(I)I"⟩
abbrev cX7_nextStep : ByteArray := prog_1_method_53_code
def yX7_nextStep : MethodName := ⟨RX7, "nextStep", "(I)I"⟩
abbrev cX7_stepSector : ByteArray := prog_1_method_54_code
def yX7_stepSector : MethodName := ⟨RX7, "stepSector", "(IZ)I"⟩
abbrev cX7_compact : ByteArray := prog_1_method_55_code
def yX7_compact : MethodName := ⟨RX7, "compact", "()I"⟩
abbrev cX7_compactSteps : ByteArray := prog_1_method_56_code
def yX7_compactSteps : MethodName := ⟨RX7, "compactSteps", "()I"⟩
abbrev cX7_cheapestMove : ByteArray := prog_1_method_57_code
def yX7_cheapestMove : MethodName := ⟨RX7, "cheapestMove", "(I)I"⟩
abbrev cX7_printDisk : ByteArray := prog_1_method_58_code
def yX7_printDisk : MethodName := ⟨RX7, "printDisk", "()I"⟩
abbrev cX7_outputByte : ByteArray := prog_1_method_59_code
def yX7_outputByte : MethodName := ⟨RX7, "outputByte", "(I)I"⟩
abbrev cX7_undo : ByteArray := prog_1_method_60_code
def yX7_undo : MethodName := ⟨RX7, "undo", "()I"⟩
abbrev cX7_saveState : ByteArray := prog_1_method_61_code
def yX7_saveState : MethodName := ⟨RX7, "saveState", "()I"⟩
abbrev cX7_restoreState : ByteArray := prog_1_method_62_code
def yX7_restoreState : MethodName := ⟨RX7, "restoreState", "()I"⟩
abbrev cX7_gapsNow : ByteArray := prog_1_method_63_code
def yX7_gapsNow : MethodName := ⟨RX7, "gapsNow", "()LPartitionBench$Gaps;"⟩
abbrev cX7_need : ByteArray := prog_1_method_64_code
def yX7_need : MethodName := ⟨RX7, "need", "(I)LPartitionBench$Part;"⟩
abbrev cX7_needSector : ByteArray := prog_1_method_65_code
def yX7_needSector : MethodName := ⟨RX7, "needSector", "(I)V"⟩
abbrev cX7_needKindAndMinimum : ByteArray := prog_1_method_66_code
def yX7_needKindAndMinimum : MethodName := ⟨RX7, "needKindAndMinimum", "(III)V"⟩
abbrev cX7_needRule : ByteArray := prog_1_method_67_code
def yX7_needRule : MethodName := ⟨RX7, "needRule", "(I)V"⟩
abbrev cX7_needNumberLeft : ByteArray := prog_1_method_68_code
def yX7_needNumberLeft : MethodName := ⟨RX7, "needNumberLeft", "()V"⟩
abbrev cX7_needFree : ByteArray := prog_1_method_69_code
def yX7_needFree : MethodName := ⟨RX7, "needFree", "(LPartitionBench$Part;)V"⟩
abbrev cX7_needSizeFor : ByteArray := prog_1_method_70_code
def yX7_needSizeFor : MethodName := ⟨RX7, "needSizeFor", "(LPartitionBench$Part;I)V"⟩
abbrev cX7_needMove : ByteArray := prog_1_method_71_code
def yX7_needMove : MethodName := ⟨RX7, "needMove", "()V"⟩
abbrev cX7_needNoMove : ByteArray := prog_1_method_72_code
def yX7_needNoMove : MethodName := ⟨RX7, "needNoMove", "()V"⟩
abbrev cX7_meet : ByteArray := prog_1_method_73_code
def yX7_meet : MethodName := ⟨RX7, "meet", "(JJJJ)Z"⟩
abbrev cX7_roundedUp : ByteArray := prog_1_method_74_code
def yX7_roundedUp : MethodName := ⟨RX7, "roundedUp", "(II)I"⟩
abbrev cX7_roomBetween : ByteArray := prog_1_method_75_code
def yX7_roomBetween : MethodName := ⟨RX7, "roomBetween", "(III)I"⟩
abbrev cX7_distanceOf : ByteArray := prog_1_method_76_code
def yX7_distanceOf : MethodName := ⟨RX7, "distanceOf", "(II)I"⟩
abbrev cX7_stepsOfChunk : ByteArray := prog_1_method_77_code
def yX7_stepsOfChunk : MethodName := ⟨RX7, "stepsOfChunk", "(II)I"⟩
abbrev cX7_stepsOfMove : ByteArray := prog_1_method_78_code
def yX7_stepsOfMove : MethodName := ⟨RX7, "stepsOfMove", "(III)I"⟩
def RX8 : String := "PartitionBenchModel"
abbrev cX8_init : ByteArray := prog_10_method_1_code
def yX8_init : MethodName := ⟨RX8, "<init>", "()V"⟩
abbrev cX8_thrown : ByteArray := prog_10_method_2_code
def yX8_thrown : MethodName := ⟨RX8, "thrown", "()I"⟩
abbrev cX8_inRange : ByteArray := prog_10_method_3_code
def yX8_inRange : MethodName := ⟨RX8, "inRange", "(JJJ)Z"⟩
abbrev cX8_fails : ByteArray := prog_10_method_4_code
def yX8_fails : MethodName := ⟨RX8, "fails", "(ZI)Z"⟩
abbrev cX8_copies : ByteArray := prog_10_method_5_code
def yX8_copies : MethodName := ⟨RX8, "copies", "([II[III)V"⟩
abbrev cX8_clear : ByteArray := prog_10_method_6_code
def yX8_clear : MethodName := ⟨RX8, "clear", "(I)V"⟩
abbrev cX8_remembers : ByteArray := prog_10_method_7_code
def yX8_remembers : MethodName := ⟨RX8, "remembers", "()V"⟩
abbrev cX8_begins : ByteArray := prog_10_method_8_code
def yX8_begins : MethodName := ⟨RX8, "begins", "()V"⟩
abbrev cX8_ends : ByteArray := prog_10_method_9_code
def yX8_ends : MethodName := ⟨RX8, "ends", "()V"⟩
abbrev cX8_of : ByteArray := prog_10_method_10_code
def yX8_of : MethodName := ⟨RX8, "of", "(II)I"⟩
abbrev cX8_put : ByteArray := prog_10_method_11_code
def yX8_put : MethodName := ⟨RX8, "put", "(III)V"⟩
abbrev cX8_stands : ByteArray := prog_10_method_12_code
def yX8_stands : MethodName := ⟨RX8, "stands", "(I)Z"⟩
abbrev cX8_partsMany : ByteArray := prog_10_method_13_code
def yX8_partsMany : MethodName := ⟨RX8, "partsMany", "()I"⟩
abbrev cX8_isMoving : ByteArray := prog_10_method_14_code
def yX8_isMoving : MethodName := ⟨RX8, "isMoving", "()Z"⟩
abbrev cX8_isMoved : ByteArray := prog_10_method_15_code
def yX8_isMoved : MethodName := ⟨RX8, "isMoved", "(I)Z"⟩
abbrev cX8_isFixed : ByteArray := prog_10_method_16_code
def yX8_isFixed : MethodName := ⟨RX8, "isFixed", "(I)Z"⟩
abbrev cX8_up : ByteArray := prog_10_method_17_code
def yX8_up : MethodName := ⟨RX8, "up", "(II)I"⟩
abbrev cX8_numberOf : ByteArray := prog_10_method_18_code
def yX8_numberOf : MethodName := ⟨RX8, "numberOf", "(II)I"⟩
abbrev cX8_writes : ByteArray := prog_10_method_19_code
def yX8_writes : MethodName := ⟨RX8, "writes", "(II)V"⟩
abbrev cX8_makes : ByteArray := prog_10_method_20_code
def yX8_makes : MethodName := ⟨RX8, "makes", "(IIII)I"⟩
abbrev cX8_isUsable : ByteArray := prog_10_method_21_code
def yX8_isUsable : MethodName := ⟨RX8, "isUsable", "(JJ)Z"⟩
abbrev cX8_meet : ByteArray := prog_10_method_22_code
def yX8_meet : MethodName := ⟨RX8, "meet", "(JJJJ)Z"⟩
abbrev cX8_isTaken : ByteArray := prog_10_method_23_code
def yX8_isTaken : MethodName := ⟨RX8, "isTaken", "(JJI)Z"⟩
abbrev cX8_scratchSize : ByteArray := prog_10_method_24_code
def yX8_scratchSize : MethodName := ⟨RX8, "scratchSize", "()I"⟩
abbrev cX8_isBusy : ByteArray := prog_10_method_25_code
def yX8_isBusy : MethodName := ⟨RX8, "isBusy", "(JJ)Z"⟩
abbrev cX8_whyNot : ByteArray := prog_10_method_26_code
def yX8_whyNot : MethodName := ⟨RX8, "whyNot", "(II)I"⟩
abbrev cX8_isFree : ByteArray := prog_10_method_27_code
def yX8_isFree : MethodName := ⟨RX8, "isFree", "(I)Z"⟩
abbrev cX8_laysGaps : ByteArray := prog_10_method_28_code
def yX8_laysGaps : MethodName := ⟨RX8, "laysGaps", "()V"⟩
abbrev cX8_roomStart : ByteArray := prog_10_method_29_code
def yX8_roomStart : MethodName := ⟨RX8, "roomStart", "(I)I"⟩
abbrev cX8_roomSize : ByteArray := prog_10_method_30_code
def yX8_roomSize : MethodName := ⟨RX8, "roomSize", "(I)I"⟩
abbrev cX8_mostRoom : ByteArray := prog_10_method_31_code
def yX8_mostRoom : MethodName := ⟨RX8, "mostRoom", "()I"⟩
abbrev cX8_fits : ByteArray := prog_10_method_32_code
def yX8_fits : MethodName := ⟨RX8, "fits", "(II)I"⟩
abbrev cX8_scratchFor : ByteArray := prog_10_method_33_code
def yX8_scratchFor : MethodName := ⟨RX8, "scratchFor", "(III)I"⟩
abbrev cX8_whyNotMoved : ByteArray := prog_10_method_34_code
def yX8_whyNotMoved : MethodName := ⟨RX8, "whyNotMoved", "(II)I"⟩
abbrev cX8_far : ByteArray := prog_10_method_35_code
def yX8_far : MethodName := ⟨RX8, "far", "(II)I"⟩
abbrev cX8_stepsOf : ByteArray := prog_10_method_36_code
def yX8_stepsOf : MethodName := ⟨RX8, "stepsOf", "(IIIII)I"⟩
abbrev cX8_stepsBy : ByteArray := prog_10_method_37_code
def yX8_stepsBy : MethodName := ⟨RX8, "stepsBy", "(II)I"⟩
abbrev cX8_chunks : ByteArray := prog_10_method_38_code
def yX8_chunks : MethodName := ⟨RX8, "chunks", "()I"⟩
abbrev cX8_distance : ByteArray := prog_10_method_39_code
def yX8_distance : MethodName := ⟨RX8, "distance", "()I"⟩
abbrev cX8_isAscending : ByteArray := prog_10_method_40_code
def yX8_isAscending : MethodName := ⟨RX8, "isAscending", "()Z"⟩
abbrev cX8_isChunkMoved : ByteArray := prog_10_method_41_code
def yX8_isChunkMoved : MethodName := ⟨RX8, "isChunkMoved", "(I)Z"⟩
abbrev cX8_nextChunk : ByteArray := prog_10_method_42_code
def yX8_nextChunk : MethodName := ⟨RX8, "nextChunk", "()I"⟩
abbrev cX8_firstBlock : ByteArray := prog_10_method_43_code
def yX8_firstBlock : MethodName := ⟨RX8, "firstBlock", "()I"⟩
abbrev cX8_blocksNext : ByteArray := prog_10_method_44_code
def yX8_blocksNext : MethodName := ⟨RX8, "blocksNext", "()I"⟩
abbrev cX8_stepsLeft : ByteArray := prog_10_method_45_code
def yX8_stepsLeft : MethodName := ⟨RX8, "stepsLeft", "()I"⟩
abbrev cX8_stepKind : ByteArray := prog_10_method_46_code
def yX8_stepKind : MethodName := ⟨RX8, "stepKind", "()I"⟩
abbrev cX8_sourceOf : ByteArray := prog_10_method_47_code
def yX8_sourceOf : MethodName := ⟨RX8, "sourceOf", "(I)I"⟩
abbrev cX8_targetOf : ByteArray := prog_10_method_48_code
def yX8_targetOf : MethodName := ⟨RX8, "targetOf", "(I)I"⟩
abbrev cX8_copiesBlocks : ByteArray := prog_10_method_49_code
def yX8_copiesBlocks : MethodName := ⟨RX8, "copiesBlocks", "(I)V"⟩
abbrev cX8_starts : ByteArray := prog_10_method_50_code
def yX8_starts : MethodName := ⟨RX8, "starts", "(II)V"⟩
abbrev cX8_step : ByteArray := prog_10_method_51_code
def yX8_step : MethodName := ⟨RX8, "step", "()V"⟩
abbrev cX8_runs : ByteArray := prog_10_method_52_code
def yX8_runs : MethodName := ⟨RX8, "runs", "(I)I"⟩
abbrev cX8_placeOf : ByteArray := prog_10_method_53_code
def yX8_placeOf : MethodName := ⟨RX8, "placeOf", "(II)I"⟩
abbrev cX8_leftOf : ByteArray := prog_10_method_54_code
def yX8_leftOf : MethodName := ⟨RX8, "leftOf", "(I)I"⟩
abbrev cX8_rightOf : ByteArray := prog_10_method_55_code
def yX8_rightOf : MethodName := ⟨RX8, "rightOf", "(I)I"⟩
abbrev cX8_appendWord : ByteArray := prog_10_method_56_code
def yX8_appendWord : MethodName := ⟨RX8, "appendWord", "(I)V"⟩
abbrev cX8_appendInput : ByteArray := prog_10_method_57_code
def yX8_appendInput : MethodName := ⟨RX8, "appendInput", "(IIIII)I"⟩
abbrev cX8_truncateInput : ByteArray := prog_10_method_58_code
def yX8_truncateInput : MethodName := ⟨RX8, "truncateInput", "(I)Z"⟩
abbrev cX8_byteAt : ByteArray := prog_10_method_59_code
def yX8_byteAt : MethodName := ⟨RX8, "byteAt", "(I)I"⟩
abbrev cX8_advanceToken : ByteArray := prog_10_method_60_code
def yX8_advanceToken : MethodName := ⟨RX8, "advanceToken", "()V"⟩
abbrev cX8_tokenLength : ByteArray := prog_10_method_61_code
def yX8_tokenLength : MethodName := ⟨RX8, "tokenLength", "()I"⟩
abbrev cX8_failsAt : ByteArray := prog_10_method_62_code
def yX8_failsAt : MethodName := ⟨RX8, "failsAt", "(I)Z"⟩
abbrev cX8_isWord : ByteArray := prog_10_method_63_code
def yX8_isWord : MethodName := ⟨RX8, "isWord", "(Ljava/lang/String;)Z"⟩
abbrev cX8_isNumber : ByteArray := prog_10_method_64_code
def yX8_isNumber : MethodName := ⟨RX8, "isNumber", "(II)Z"⟩
abbrev cX8_takes : ByteArray := prog_10_method_65_code
def yX8_takes : MethodName := ⟨RX8, "takes", "(III)Z"⟩
abbrev cX8_readSetting : ByteArray := prog_10_method_66_code
def yX8_readSetting : MethodName := ⟨RX8, "readSetting", "(IIII)Z"⟩
abbrev cX8_readPart : ByteArray := prog_10_method_67_code
def yX8_readPart : MethodName := ⟨RX8, "readPart", "()Z"⟩
abbrev cX8_readLock : ByteArray := prog_10_method_68_code
def yX8_readLock : MethodName := ⟨RX8, "readLock", "()Z"⟩
abbrev cX8_readStatement : ByteArray := prog_10_method_69_code
def yX8_readStatement : MethodName := ⟨RX8, "readStatement", "()Z"⟩
abbrev cX8_passesSemicolon : ByteArray := prog_10_method_70_code
def yX8_passesSemicolon : MethodName := ⟨RX8, "passesSemicolon", "()Z"⟩
abbrev cX8_readText : ByteArray := prog_10_method_71_code
def yX8_readText : MethodName := ⟨RX8, "readText", "()Z"⟩
abbrev cX8_loadDisk : ByteArray := prog_10_method_72_code
def yX8_loadDisk : MethodName := ⟨RX8, "loadDisk", "()I"⟩
abbrev cX8_errorCode : ByteArray := prog_10_method_73_code
def yX8_errorCode : MethodName := ⟨RX8, "errorCode", "()I"⟩
abbrev cX8_errorOffset : ByteArray := prog_10_method_74_code
def yX8_errorOffset : MethodName := ⟨RX8, "errorOffset", "()I"⟩
abbrev cX8_gapSectors : ByteArray := prog_10_method_75_code
def yX8_gapSectors : MethodName := ⟨RX8, "gapSectors", "()I"⟩
abbrev cX8_gapsNow : ByteArray := prog_10_method_76_code
def yX8_gapsNow : MethodName := ⟨RX8, "gapsNow", "()I"⟩
abbrev cX8_count : ByteArray := prog_10_method_77_code
def yX8_count : MethodName := ⟨RX8, "count", "(I)I"⟩
abbrev cX8_noPart : ByteArray := prog_10_method_78_code
def yX8_noPart : MethodName := ⟨RX8, "noPart", "(II)Z"⟩
abbrev cX8_part : ByteArray := prog_10_method_79_code
def yX8_part : MethodName := ⟨RX8, "part", "(II)I"⟩
abbrev cX8_noSector : ByteArray := prog_10_method_80_code
def yX8_noSector : MethodName := ⟨RX8, "noSector", "(I)Z"⟩
abbrev cX8_sector : ByteArray := prog_10_method_81_code
def yX8_sector : MethodName := ⟨RX8, "sector", "(I)I"⟩
abbrev cX8_ownerOf : ByteArray := prog_10_method_82_code
def yX8_ownerOf : MethodName := ⟨RX8, "ownerOf", "(I)I"⟩
abbrev cX8_owner : ByteArray := prog_10_method_83_code
def yX8_owner : MethodName := ⟨RX8, "owner", "(I)I"⟩
abbrev cX8_place : ByteArray := prog_10_method_84_code
def yX8_place : MethodName := ⟨RX8, "place", "(II)I"⟩
abbrev cX8_whole : ByteArray := prog_10_method_85_code
def yX8_whole : MethodName := ⟨RX8, "whole", "(I)Z"⟩
abbrev cX8_isWhole : ByteArray := prog_10_method_86_code
def yX8_isWhole : MethodName := ⟨RX8, "isWhole", "(I)Z"⟩
abbrev cX8_verify : ByteArray := prog_10_method_87_code
def yX8_verify : MethodName := ⟨RX8, "verify", "()I"⟩
abbrev cX8_nextBy : ByteArray := prog_10_method_88_code
def yX8_nextBy : MethodName := ⟨RX8, "nextBy", "(I)I"⟩
abbrev cX8_standsAt : ByteArray := prog_10_method_89_code
def yX8_standsAt : MethodName := ⟨RX8, "standsAt", "(I)I"⟩
abbrev cX8_byStart : ByteArray := prog_10_method_90_code
def yX8_byStart : MethodName := ⟨RX8, "byStart", "(I)I"⟩
abbrev cX8_behind : ByteArray := prog_10_method_91_code
def yX8_behind : MethodName := ⟨RX8, "behind", "(I)I"⟩
abbrev cX8_gap : ByteArray := prog_10_method_92_code
def yX8_gap : MethodName := ⟨RX8, "gap", "(II)I"⟩
abbrev cX8_greatestGap : ByteArray := prog_10_method_93_code
def yX8_greatestGap : MethodName := ⟨RX8, "greatestGap", "()I"⟩
abbrev cX8_largestGap : ByteArray := prog_10_method_94_code
def yX8_largestGap : MethodName := ⟨RX8, "largestGap", "()I"⟩
abbrev cX8_gapAt : ByteArray := prog_10_method_95_code
def yX8_gapAt : MethodName := ⟨RX8, "gapAt", "(I)I"⟩
abbrev cX8_fit : ByteArray := prog_10_method_96_code
def yX8_fit : MethodName := ⟨RX8, "fit", "(II)I"⟩
abbrev cX8_reason : ByteArray := prog_10_method_97_code
def yX8_reason : MethodName := ⟨RX8, "reason", "(II)I"⟩
abbrev cX8_overlapped : ByteArray := prog_10_method_98_code
def yX8_overlapped : MethodName := ⟨RX8, "overlapped", "(II)I"⟩
abbrev cX8_waste : ByteArray := prog_10_method_99_code
def yX8_waste : MethodName := ⟨RX8, "waste", "()I"⟩
abbrev cX8_scatter : ByteArray := prog_10_method_100_code
def yX8_scatter : MethodName := ⟨RX8, "scatter", "()F"⟩
abbrev cX8_sizes : ByteArray := prog_10_method_101_code
def yX8_sizes : MethodName := ⟨RX8, "sizes", "()I"⟩
abbrev cX8_used : ByteArray := prog_10_method_102_code
def yX8_used : MethodName := ⟨RX8, "used", "()D"⟩
abbrev cX8_slackOf : ByteArray := prog_10_method_103_code
def yX8_slackOf : MethodName := ⟨RX8, "slackOf", "(I)I"⟩
abbrev cX8_slack : ByteArray := prog_10_method_104_code
def yX8_slack : MethodName := ⟨RX8, "slack", "()I"⟩
abbrev cX8_ofKind : ByteArray := prog_10_method_105_code
def yX8_ofKind : MethodName := ⟨RX8, "ofKind", "(I)I"⟩
abbrev cX8_isTold : ByteArray := prog_10_method_106_code
def yX8_isTold : MethodName := ⟨RX8, "isTold", "(III)Z"⟩
abbrev cX8_add : ByteArray := prog_10_method_107_code
def yX8_add : MethodName := ⟨RX8, "add", "(IIII)I"⟩
abbrev cX8_addBy : ByteArray := prog_10_method_108_code
def yX8_addBy : MethodName := ⟨RX8, "addBy", "(IIII)I"⟩
abbrev cX8_remove : ByteArray := prog_10_method_109_code
def yX8_remove : MethodName := ⟨RX8, "remove", "(I)I"⟩
abbrev cX8_lock : ByteArray := prog_10_method_110_code
def yX8_lock : MethodName := ⟨RX8, "lock", "(IZ)Z"⟩
abbrev cX8_whyNotSized : ByteArray := prog_10_method_111_code
def yX8_whyNotSized : MethodName := ⟨RX8, "whyNotSized", "(II)I"⟩
abbrev cX8_whyNotResized : ByteArray := prog_10_method_112_code
def yX8_whyNotResized : MethodName := ⟨RX8, "whyNotResized", "(II)I"⟩
abbrev cX8_resizeReason : ByteArray := prog_10_method_113_code
def yX8_resizeReason : MethodName := ⟨RX8, "resizeReason", "(II)I"⟩
abbrev cX8_resizes : ByteArray := prog_10_method_114_code
def yX8_resizes : MethodName := ⟨RX8, "resizes", "(II)V"⟩
abbrev cX8_resize : ByteArray := prog_10_method_115_code
def yX8_resize : MethodName := ⟨RX8, "resize", "(II)I"⟩
abbrev cX8_roundUp : ByteArray := prog_10_method_116_code
def yX8_roundUp : MethodName := ⟨RX8, "roundUp", "(I)I"⟩
abbrev cX8_setMinimum : ByteArray := prog_10_method_117_code
def yX8_setMinimum : MethodName := ⟨RX8, "setMinimum", "(II)I"⟩
abbrev cX8_growsTo : ByteArray := prog_10_method_118_code
def yX8_growsTo : MethodName := ⟨RX8, "growsTo", "(I)I"⟩
abbrev cX8_split : ByteArray := prog_10_method_119_code
def yX8_split : MethodName := ⟨RX8, "split", "(II)I"⟩
abbrev cX8_neighbour : ByteArray := prog_10_method_120_code
def yX8_neighbour : MethodName := ⟨RX8, "neighbour", "(I)I"⟩
abbrev cX8_canJoin : ByteArray := prog_10_method_121_code
def yX8_canJoin : MethodName := ⟨RX8, "canJoin", "(I)Z"⟩
abbrev cX8_join : ByteArray := prog_10_method_122_code
def yX8_join : MethodName := ⟨RX8, "join", "(I)I"⟩
abbrev cX8_shrinkAll : ByteArray := prog_10_method_123_code
def yX8_shrinkAll : MethodName := ⟨RX8, "shrinkAll", "()I"⟩
abbrev cX8_wipe : ByteArray := prog_10_method_124_code
def yX8_wipe : MethodName := ⟨RX8, "wipe", "()I"⟩
abbrev cX8_set : ByteArray := prog_10_method_125_code
def yX8_set : MethodName := ⟨RX8, "set", "(II)I"⟩
abbrev cX8_moveReason : ByteArray := prog_10_method_126_code
def yX8_moveReason : MethodName := ⟨RX8, "moveReason", "(II)I"⟩
abbrev cX8_stepsFor : ByteArray := prog_10_method_127_code
def yX8_stepsFor : MethodName := ⟨RX8, "stepsFor", "(II)I"⟩
abbrev cX8_begin : ByteArray := prog_10_method_128_code
def yX8_begin : MethodName := ⟨RX8, "begin", "(II)I"⟩
abbrev cX8_run : ByteArray := prog_10_method_129_code
def yX8_run : MethodName := ⟨RX8, "run", "(I)I"⟩
abbrev cX8_tear : ByteArray := prog_10_method_130_code
def yX8_tear : MethodName := ⟨RX8, "tear", "()I"⟩
abbrev cX8_turnBack : ByteArray := prog_10_method_131_code
def yX8_turnBack : MethodName := ⟨RX8, "turnBack", "()I"⟩
abbrev cX8_move : ByteArray := prog_10_method_132_code
def yX8_move : MethodName := ⟨RX8, "move", "(I)I"⟩
abbrev cX8_blocksAt : ByteArray := prog_10_method_133_code
def yX8_blocksAt : MethodName := ⟨RX8, "blocksAt", "(I)I"⟩
abbrev cX8_nextStep : ByteArray := prog_10_method_134_code
def yX8_nextStep : MethodName := ⟨RX8, "nextStep", "(I)I"⟩
abbrev cX8_stepSector : ByteArray := prog_10_method_135_code
def yX8_stepSector : MethodName := ⟨RX8, "stepSector", "(IZ)I"⟩
abbrev cX8_copies_ : ByteArray := prog_10_method_136_code
def yX8_copies_ : MethodName := ⟨RX8, "copies", "(I)I"⟩
abbrev cX8_leftmost : ByteArray := prog_10_method_137_code
def yX8_leftmost : MethodName := ⟨RX8, "leftmost", "(I)I"⟩
abbrev cX8_rightmost : ByteArray := prog_10_method_138_code
def yX8_rightmost : MethodName := ⟨RX8, "rightmost", "(I)I"⟩
abbrev cX8_compacts : ByteArray := prog_10_method_139_code
def yX8_compacts : MethodName := ⟨RX8, "compacts", "()I"⟩
abbrev cX8_compact : ByteArray := prog_10_method_140_code
def yX8_compact : MethodName := ⟨RX8, "compact", "()I"⟩
abbrev cX8_compactSteps : ByteArray := prog_10_method_141_code
def yX8_compactSteps : MethodName := ⟨RX8, "compactSteps", "()I"⟩
abbrev cX8_cheapestMove : ByteArray := prog_10_method_142_code
def yX8_cheapestMove : MethodName := ⟨RX8, "cheapestMove", "(I)I"⟩
abbrev cX8_brings : ByteArray := prog_10_method_143_code
def yX8_brings : MethodName := ⟨RX8, "brings", "(III)Z"⟩
abbrev cX8_bestChunk : ByteArray := prog_10_method_144_code
def yX8_bestChunk : MethodName := ⟨RX8, "bestChunk", "(II)I"⟩
abbrev cX8_write : ByteArray := prog_10_method_145_code
def yX8_write : MethodName := ⟨RX8, "write", "(I)V"⟩
abbrev cX8_writeNumber : ByteArray := prog_10_method_146_code
def yX8_writeNumber : MethodName := ⟨RX8, "writeNumber", "(I)V"⟩
abbrev cX8_printDisk : ByteArray := prog_10_method_147_code
def yX8_printDisk : MethodName := ⟨RX8, "printDisk", "()I"⟩
abbrev cX8_writePart : ByteArray := prog_10_method_148_code
def yX8_writePart : MethodName := ⟨RX8, "writePart", "(I)V"⟩
abbrev cX8_outputByte : ByteArray := prog_10_method_149_code
def yX8_outputByte : MethodName := ⟨RX8, "outputByte", "(I)I"⟩
abbrev cX8_undo : ByteArray := prog_10_method_150_code
def yX8_undo : MethodName := ⟨RX8, "undo", "()I"⟩
abbrev cX8_saveState : ByteArray := prog_10_method_151_code
def yX8_saveState : MethodName := ⟨RX8, "saveState", "()I"⟩
abbrev cX8_restoreState : ByteArray := prog_10_method_152_code
def yX8_restoreState : MethodName := ⟨RX8, "restoreState", "()I"⟩
def RL : String := "PartitionBenchLaw"
abbrev cL_count : ByteArray := method_3_code
def yL_count : MethodName := ⟨RL, "count", "(LPartitionBench;I[J)I"⟩
abbrev cL_part : ByteArray := method_4_code
def yL_part : MethodName := ⟨RL, "part", "(LPartitionBench;II[J)I"⟩
abbrev cL_sector : ByteArray := method_5_code
def yL_sector : MethodName := ⟨RL, "sector", "(LPartitionBench;I[J)I"⟩
abbrev cL_owner : ByteArray := method_6_code
def yL_owner : MethodName := ⟨RL, "owner", "(LPartitionBench;I[J)I"⟩
abbrev cL_place : ByteArray := method_7_code
def yL_place : MethodName := ⟨RL, "place", "(LPartitionBench;II[J)I"⟩
abbrev cL_isWhole : ByteArray := method_8_code
def yL_isWhole : MethodName := ⟨RL, "isWhole", "(LPartitionBench;I[J)I"⟩
abbrev cL_byStart : ByteArray := method_9_code
def yL_byStart : MethodName := ⟨RL, "byStart", "(LPartitionBench;I[J)I"⟩
abbrev cL_gap : ByteArray := method_10_code
def yL_gap : MethodName := ⟨RL, "gap", "(LPartitionBench;II[J)I"⟩
abbrev cL_fit : ByteArray := method_11_code
def yL_fit : MethodName := ⟨RL, "fit", "(LPartitionBench;II[J)I"⟩
abbrev cL_add : ByteArray := method_12_code
def yL_add : MethodName := ⟨RL, "add", "(LPartitionBench;IIII[J)I"⟩
abbrev cL_addBy : ByteArray := method_13_code
def yL_addBy : MethodName := ⟨RL, "addBy", "(LPartitionBench;IIII[J)I"⟩
abbrev cL_remove : ByteArray := method_14_code
def yL_remove : MethodName := ⟨RL, "remove", "(LPartitionBench;I[J)I"⟩
abbrev cL_lock : ByteArray := method_15_code
def yL_lock : MethodName := ⟨RL, "lock", "(LPartitionBench;IZ[J)I"⟩
abbrev cL_resizeReason : ByteArray := method_16_code
def yL_resizeReason : MethodName := ⟨RL, "resizeReason", "(LPartitionBench;II[J)I"⟩
abbrev cL_resize : ByteArray := method_17_code
def yL_resize : MethodName := ⟨RL, "resize", "(LPartitionBench;II[J)I"⟩
abbrev cL_setMinimum : ByteArray := method_18_code
def yL_setMinimum : MethodName := ⟨RL, "setMinimum", "(LPartitionBench;II[J)I"⟩
abbrev cL_growsTo : ByteArray := method_19_code
def yL_growsTo : MethodName := ⟨RL, "growsTo", "(LPartitionBench;I[J)I"⟩
abbrev cL_set : ByteArray := method_20_code
def yL_set : MethodName := ⟨RL, "set", "(LPartitionBench;II[J)I"⟩
abbrev cL_moveReason : ByteArray := method_21_code
def yL_moveReason : MethodName := ⟨RL, "moveReason", "(LPartitionBench;II[J)I"⟩
abbrev cL_stepsFor : ByteArray := method_22_code
def yL_stepsFor : MethodName := ⟨RL, "stepsFor", "(LPartitionBench;II[J)I"⟩
abbrev cL_begin : ByteArray := method_23_code
def yL_begin : MethodName := ⟨RL, "begin", "(LPartitionBench;II[J)I"⟩
abbrev cL_run : ByteArray := method_24_code
def yL_run : MethodName := ⟨RL, "run", "(LPartitionBench;I[J)I"⟩
abbrev cL_tear : ByteArray := method_25_code
def yL_tear : MethodName := ⟨RL, "tear", "(LPartitionBench;[J)I"⟩
abbrev cL_turnBack : ByteArray := method_26_code
def yL_turnBack : MethodName := ⟨RL, "turnBack", "(LPartitionBench;[J)I"⟩
abbrev cL_move : ByteArray := method_27_code
def yL_move : MethodName := ⟨RL, "move", "(LPartitionBench;I[J)I"⟩
abbrev cL_leftmost : ByteArray := method_28_code
def yL_leftmost : MethodName := ⟨RL, "leftmost", "(LPartitionBench;I[J)I"⟩
abbrev cL_compact : ByteArray := method_29_code
def yL_compact : MethodName := ⟨RL, "compact", "(LPartitionBench;[J)I"⟩
abbrev cL_cheapestMove : ByteArray := method_30_code
def yL_cheapestMove : MethodName := ⟨RL, "cheapestMove", "(LPartitionBench;I[J)I"⟩
abbrev cL_ofKind : ByteArray := method_31_code
def yL_ofKind : MethodName := ⟨RL, "ofKind", "(LPartitionBench;I[J)I"⟩
abbrev cL_blocksAt : ByteArray := method_32_code
def yL_blocksAt : MethodName := ⟨RL, "blocksAt", "(LPartitionBench;I[J)I"⟩
abbrev cL_copies : ByteArray := method_33_code
def yL_copies : MethodName := ⟨RL, "copies", "(LPartitionBench;I[J)I"⟩
abbrev cL_split : ByteArray := method_34_code
def yL_split : MethodName := ⟨RL, "split", "(LPartitionBench;II[J)I"⟩
abbrev cL_join : ByteArray := method_35_code
def yL_join : MethodName := ⟨RL, "join", "(LPartitionBench;I[J)I"⟩
abbrev cL_roundUp : ByteArray := method_36_code
def yL_roundUp : MethodName := ⟨RL, "roundUp", "(LPartitionBench;I[J)I"⟩
abbrev cL_bestChunk : ByteArray := method_37_code
def yL_bestChunk : MethodName := ⟨RL, "bestChunk", "(LPartitionBench;II[J)I"⟩
abbrev cL_rightmost : ByteArray := method_38_code
def yL_rightmost : MethodName := ⟨RL, "rightmost", "(LPartitionBench;I[J)I"⟩
abbrev cL_behind : ByteArray := method_39_code
def yL_behind : MethodName := ⟨RL, "behind", "(LPartitionBench;I[J)I"⟩
abbrev cL_gapAt : ByteArray := method_40_code
def yL_gapAt : MethodName := ⟨RL, "gapAt", "(LPartitionBench;I[J)I"⟩
abbrev cL_nextStep : ByteArray := method_41_code
def yL_nextStep : MethodName := ⟨RL, "nextStep", "(LPartitionBench;I[J)I"⟩
abbrev cL_restoreState : ByteArray := method_42_code
def yL_restoreState : MethodName := ⟨RL, "restoreState", "(LPartitionBench;[J)I"⟩
abbrev cL_law : ByteArray := code
def yL_law : MethodName := ⟨RL, "law", "([I)Z"⟩
def TX0 : u_T := fun k => match k with
  | 0 => ("PartitionBench$Disk", "sectors", "[I", true)
  | 1 => ("PartitionBench$Disk", "parts", "[LPartitionBench$Part;", true)
  | 2 => ("PartitionBench$Disk", "move", "LPartitionBench$Move;", true)
  | 3 => ("PartitionBench$Disk", "order", "[I", true)
  | 4 => ("PartitionBench$Disk", "length", "I", false)
  | 5 => ("PartitionBench$Disk", "head", "I", false)
  | 6 => ("PartitionBench$Disk", "tail", "I", false)
  | 7 => ("PartitionBench$Disk", "align", "I", false)
  | 8 => ("PartitionBench$Disk", "chunk", "I", false)
  | 9 => ("PartitionBench$Disk", "made", "I", false)
  | 10 => ("PartitionBench$Disk", "stepsDone", "I", false)
  | 11 => ("PartitionBench$Disk", "stepsTorn", "I", false)
  | _ => ("PartitionBench$Disk", "movesEnded", "I", false)
def TX1 : u_T := fun k => match k with
  | 0 => ("PartitionBench$Gaps", "starts", "[I", true)
  | 1 => ("PartitionBench$Gaps", "sizes", "[I", true)
  | 2 => ("PartitionBench$Gaps", "found", "I", false)
  | _ => ("PartitionBench$Gaps", "align", "I", false)
def TX2 : u_T := fun k => match k with
  | 0 => ("PartitionBench$History", "past", "[LPartitionBench$Disk;", true)
  | 1 => ("PartitionBench$History", "newest", "I", false)
  | _ => ("PartitionBench$History", "kept", "I", false)
def TX3 : u_T := fun k => match k with
  | 0 => ("PartitionBench$Move", "part", "I", false)
  | 1 => ("PartitionBench$Move", "size", "I", false)
  | 2 => ("PartitionBench$Move", "from", "I", false)
  | 3 => ("PartitionBench$Move", "to", "I", false)
  | 4 => ("PartitionBench$Move", "chunk", "I", false)
  | 5 => ("PartitionBench$Move", "chunks", "I", false)
  | 6 => ("PartitionBench$Move", "scratch", "I", false)
  | 7 => ("PartitionBench$Move", "moved", "I", false)
  | _ => ("PartitionBench$Move", "parked", "Z", false)
def TX4 : u_T := fun k => match k with
  | 0 => ("PartitionBench$Output", "signs", "[I", true)
  | _ => ("PartitionBench$Output", "length", "I", false)
def TX5 : u_T := fun k => match k with
  | 0 => ("PartitionBench$Part", "number", "I", true)
  | 1 => ("PartitionBench$Part", "start", "I", false)
  | 2 => ("PartitionBench$Part", "size", "I", false)
  | 3 => ("PartitionBench$Part", "minimum", "I", false)
  | 4 => ("PartitionBench$Part", "kind", "I", false)
  | 5 => ("PartitionBench$Part", "locked", "Z", false)
  | 6 => ("PartitionBench$Part", "serial", "I", false)
  | _ => ("PartitionBench$Part", "ended", "I", false)
def TX6 : u_T := fun k => match k with
  | 0 => ("PartitionBench$Setup", "bytes", "[I", true)
  | 1 => ("PartitionBench$Setup", "length", "I", false)
  | 2 => ("PartitionBench$Setup", "error", "I", false)
  | 3 => ("PartitionBench$Setup", "errorAt", "I", false)
  | 4 => ("PartitionBench$Setup", "position", "I", false)
  | 5 => ("PartitionBench$Setup", "token", "I", false)
  | 6 => ("PartitionBench$Setup", "tokenStart", "I", false)
  | 7 => ("PartitionBench$Setup", "value", "I", false)
  | 8 => ("PartitionBench$Setup", "headTold", "Z", false)
  | 9 => ("PartitionBench$Setup", "tailTold", "Z", false)
  | 10 => ("PartitionBench$Setup", "alignTold", "Z", false)
  | _ => ("PartitionBench$Setup", "chunkTold", "Z", false)
def TX7 : u_T := fun k => match k with
  | 0 => ("PartitionBench", "disk", "LPartitionBench$Disk;", true)
  | 1 => ("PartitionBench", "ahead", "LPartitionBench$Disk;", true)
  | 2 => ("PartitionBench", "saved", "LPartitionBench$Disk;", true)
  | 3 => ("PartitionBench", "isSaved", "Z", false)
  | 4 => ("PartitionBench", "history", "LPartitionBench$History;", true)
  | 5 => ("PartitionBench", "gaps", "LPartitionBench$Gaps;", true)
  | 6 => ("PartitionBench", "setup", "LPartitionBench$Setup;", true)
  | _ => ("PartitionBench", "output", "LPartitionBench$Output;", true)
def TX8 : u_T := fun k => match k with
  | 0 => ("PartitionBenchModel", "w", "[I", true)
  | 1 => ("PartitionBenchModel", "wKept", "[I", true)
  | 2 => ("PartitionBenchModel", "aside", "[I", true)
  | 3 => ("PartitionBenchModel", "savedRow", "[I", true)
  | 4 => ("PartitionBenchModel", "past", "[I", true)
  | 5 => ("PartitionBenchModel", "pastMany", "I", false)
  | 6 => ("PartitionBenchModel", "isSaved", "Z", false)
  | 7 => ("PartitionBenchModel", "thrown", "I", false)
  | 8 => ("PartitionBenchModel", "gapStart", "[I", true)
  | 9 => ("PartitionBenchModel", "gapSize", "[I", true)
  | 10 => ("PartitionBenchModel", "gapMany", "I", false)
  | 11 => ("PartitionBenchModel", "input", "[I", true)
  | 12 => ("PartitionBenchModel", "inputMany", "I", false)
  | 13 => ("PartitionBenchModel", "lastError", "I", false)
  | 14 => ("PartitionBenchModel", "lastOffset", "I", false)
  | 15 => ("PartitionBenchModel", "error", "I", false)
  | 16 => ("PartitionBenchModel", "offset", "I", false)
  | 17 => ("PartitionBenchModel", "nextByte", "I", false)
  | 18 => ("PartitionBenchModel", "begin", "I", false)
  | 19 => ("PartitionBenchModel", "value", "I", false)
  | 20 => ("PartitionBenchModel", "token", "I", false)
  | 21 => ("PartitionBenchModel", "had", "I", false)
  | 22 => ("PartitionBenchModel", "read", "[I", true)
  | 23 => ("PartitionBenchModel", "line", "[I", true)
  | 24 => ("PartitionBenchModel", "output", "[I", true)
  | _ => ("PartitionBenchModel", "outputMany", "I", false)
end
section
/-! the tables of the program -/
def g_cls : List vw_C := [(RX0, TX0, 13), (RX1, TX1, 4), (RX2, TX2, 3), (RX3, TX3, 9), (RX4, TX4, 2), (RX5, TX5, 8), (RX6, TX6, 12), (RX7, TX7, 8), (RX8, TX8, 26)]
def g_aty : List FieldType := [.int, .object "PartitionBench$Disk", .object "PartitionBench$Part", .long]
def g_fts : List (List FieldType) := [[(.array .int), (.array (.object "PartitionBench$Part")), (.object "PartitionBench$Move"), (.array .int), .int, .int, .int, .int, .int, .int, .int, .int, .int], [(.array .int), (.array .int), .int, .int], [(.array (.object "PartitionBench$Disk")), .int, .int], [.int, .int, .int, .int, .int, .int, .int, .int, .boolean], [(.array .int), .int], [.int, .int, .int, .int, .int, .boolean, .int, .int], [(.array .int), .int, .int, .int, .int, .int, .int, .int, .boolean, .boolean, .boolean, .boolean], [(.object "PartitionBench$Disk"), (.object "PartitionBench$Disk"), (.object "PartitionBench$Disk"), .boolean, (.object "PartitionBench$History"), (.object "PartitionBench$Gaps"), (.object "PartitionBench$Setup"), (.object "PartitionBench$Output")], [(.array .int), (.array .int), (.array .int), (.array .int), (.array .int), .int, .boolean, .int, (.array .int), (.array .int), .int, (.array .int), .int, .int, .int, .int, .int, .int, .int, .int, .int, .int, (.array .int), (.array .int), (.array .int), .int]]
def g_co_X0_init : List (Option (Instr × Nat)) := [some (.aload_n 0, 1), some (.invokespecial 3, 3), none, none, some (.aload_n 0, 1), some (.sipush 600, 3), none, none, some (.newarray .int, 2), none, some (.putfield 9, 3), none, none, some (.aload_n 0, 1), some (.bipush 8, 2), none, some (.anewarray 15, 3), none, none, some (.putfield 17, 3), none, none, some (.aload_n 0, 1), some (.new 21, 3), none, none, some (.dup, 1), some (.invokespecial 23, 3), none, none, some (.putfield 24, 3), none, none, some (.aload_n 0, 1), some (.bipush 8, 2), none, some (.newarray .int, 2), none, some (.putfield 28, 3), none, none, some (.iconst 0, 1), some (.istore_n 1, 1), some (.iload_n 1, 1), some (.bipush 8, 2), none, some (.if_icmp .ge 23, 3), none, none, some (.aload_n 0, 1), some (.getfield 17, 3), none, none, some (.iload_n 1, 1), some (.new 15, 3), none, none, some (.dup, 1), some (.iload_n 1, 1), some (.invokespecial 31, 3), none, none, some (.aastore, 1), some (.iinc 1 1, 3), none, none, some (.goto (-23), 3), none, none, some (.return_, 1)]
def g_m_X0_init : ri_Mt := (RX0, yX0_init, cX0_init, 2, none, g_co_X0_init, 0)
def g_co_X0_clear : List (Option (Instr × Nat)) := [some (.aload_n 0, 1), some (.iload_n 1, 1), some (.putfield 34, 3), none, none, some (.aload_n 0, 1), some (.iconst 0, 1), some (.putfield 38, 3), none, none, some (.aload_n 0, 1), some (.iconst 0, 1), some (.putfield 41, 3), none, none, some (.aload_n 0, 1), some (.iconst 1, 1), some (.putfield 44, 3), none, none, some (.aload_n 0, 1), some (.iconst 4, 1), some (.putfield 47, 3), none, none, some (.aload_n 0, 1), some (.iconst 0, 1), some (.putfield 50, 3), none, none, some (.aload_n 0, 1), some (.iconst 0, 1), some (.putfield 53, 3), none, none, some (.aload_n 0, 1), some (.iconst 0, 1), some (.putfield 56, 3), none, none, some (.aload_n 0, 1), some (.iconst 0, 1), some (.putfield 59, 3), none, none, some (.aload_n 0, 1), some (.getfield 24, 3), none, none, some (.invokevirtual 62, 3), none, none, some (.aload_n 0, 1), some (.getfield 17, 3), none, none, some (.astore_n 2, 1), some (.aload_n 2, 1), some (.arraylength, 1), some (.istore_n 3, 1), some (.iconst 0, 1), some (.istore 4, 2), none, some (.iload 4, 2), none, some (.iload_n 3, 1), some (.if_icmp .ge 21, 3), none, none, some (.aload_n 2, 1), some (.iload 4, 2), none, some (.aaload, 1), some (.astore 5, 2), none, some (.aload 5, 2), none, some (.iconst 0, 1), some (.putfield 65, 3), none, none, some (.iinc 4 1, 3), none, none, some (.goto (-21), 3), none, none, some (.iconst 0, 1), some (.istore_n 2, 1), some (.iload_n 2, 1), some (.aload_n 0, 1), some (.getfield 9, 3), none, none, some (.arraylength, 1), some (.if_icmp .ge 16, 3), none, none, some (.aload_n 0, 1), some (.getfield 9, 3), none, none, some (.iload_n 2, 1), some (.iconst 0, 1), some (.iastore, 1), some (.iinc 2 1, 3), none, none, some (.goto (-19), 3), none, none, some (.return_, 1)]
def g_m_X0_clear : ri_Mt := (RX0, yX0_clear, cX0_clear, 6, none, g_co_X0_clear, 0)
def g_co_X0_copyFrom : List (Option (Instr × Nat)) := [some (.aload_n 0, 1), some (.aload_n 1, 1), some (.getfield 34, 3), none, none, some (.putfield 34, 3), none, none, some (.aload_n 0, 1), some (.aload_n 1, 1), some (.getfield 38, 3), none, none, some (.putfield 38, 3), none, none, some (.aload_n 0, 1), some (.aload_n 1, 1), some (.getfield 41, 3), none, none, some (.putfield 41, 3), none, none, some (.aload_n 0, 1), some (.aload_n 1, 1), some (.getfield 44, 3), none, none, some (.putfield 44, 3), none, none, some (.aload_n 0, 1), some (.aload_n 1, 1), some (.getfield 47, 3), none, none, some (.putfield 47, 3), none, none, some (.aload_n 0, 1), some (.aload_n 1, 1), some (.getfield 50, 3), none, none, some (.putfield 50, 3), none, none, some (.aload_n 0, 1), some (.aload_n 1, 1), some (.getfield 53, 3), none, none, some (.putfield 53, 3), none, none, some (.aload_n 0, 1), some (.aload_n 1, 1), some (.getfield 56, 3), none, none, some (.putfield 56, 3), none, none, some (.aload_n 0, 1), some (.aload_n 1, 1), some (.getfield 59, 3), none, none, some (.putfield 59, 3), none, none, some (.aload_n 0, 1), some (.getfield 24, 3), none, none, some (.aload_n 1, 1), some (.getfield 24, 3), none, none, some (.invokevirtual 68, 3), none, none, some (.iconst 0, 1), some (.istore_n 2, 1), some (.iload_n 2, 1), some (.bipush 8, 2), none, some (.if_icmp .ge 24, 3), none, none, some (.aload_n 0, 1), some (.getfield 17, 3), none, none, some (.iload_n 2, 1), some (.aaload, 1), some (.aload_n 1, 1), some (.getfield 17, 3), none, none, some (.iload_n 2, 1), some (.aaload, 1), some (.invokevirtual 72, 3), none, none, some (.iinc 2 1, 3), none, none, some (.goto (-24), 3), none, none, some (.aload_n 1, 1), some (.getfield 9, 3), none, none, some (.iconst 0, 1), some (.aload_n 0, 1), some (.getfield 9, 3), none, none, some (.iconst 0, 1), some (.sipush 600, 3), none, none, some (.invokestatic 75, 3), none, none, some (.return_, 1)]
def g_m_X0_copyFrom : ri_Mt := (RX0, yX0_copyFrom, cX0_copyFrom, 3, none, g_co_X0_copyFrom, 0)
def g_co_X0_find : List (Option (Instr × Nat)) := [some (.iload_n 1, 1), some (.ifCond .lt 24, 3), none, none, some (.iload_n 1, 1), some (.aload_n 0, 1), some (.getfield 17, 3), none, none, some (.arraylength, 1), some (.if_icmp .ge 15, 3), none, none, some (.aload_n 0, 1), some (.getfield 17, 3), none, none, some (.iload_n 1, 1), some (.aaload, 1), some (.invokevirtual 81, 3), none, none, some (.ifCond .ne 5, 3), none, none, some (.aconst_null, 1), some (.areturn, 1), some (.aload_n 0, 1), some (.getfield 17, 3), none, none, some (.iload_n 1, 1), some (.aaload, 1), some (.areturn, 1)]
def g_m_X0_find : ri_Mt := (RX0, yX0_find, cX0_find, 2, (some (.object "PartitionBench$Part")), g_co_X0_find, 0)
def g_co_X0_standing : List (Option (Instr × Nat)) := [some (.iconst 0, 1), some (.istore_n 1, 1), some (.aload_n 0, 1), some (.getfield 17, 3), none, none, some (.astore_n 2, 1), some (.aload_n 2, 1), some (.arraylength, 1), some (.istore_n 3, 1), some (.iconst 0, 1), some (.istore 4, 2), none, some (.iload 4, 2), none, some (.iload_n 3, 1), some (.if_icmp .ge 26, 3), none, none, some (.aload_n 2, 1), some (.iload 4, 2), none, some (.aaload, 1), some (.astore 5, 2), none, some (.aload 5, 2), none, some (.invokevirtual 81, 3), none, none, some (.ifCond .eq 6, 3), none, none, some (.iinc 1 1, 3), none, none, some (.iinc 4 1, 3), none, none, some (.goto (-26), 3), none, none, some (.iload_n 1, 1), some (.ireturn, 1)]
def g_m_X0_standing : ri_Mt := (RX0, yX0_standing, cX0_standing, 6, (some .int), g_co_X0_standing, 0)
def g_co_X0_takenByParts : List (Option (Instr × Nat)) := [some (.iconst 0, 1), some (.istore_n 1, 1), some (.aload_n 0, 1), some (.getfield 17, 3), none, none, some (.astore_n 2, 1), some (.aload_n 2, 1), some (.arraylength, 1), some (.istore_n 3, 1), some (.iconst 0, 1), some (.istore 4, 2), none, some (.iload 4, 2), none, some (.iload_n 3, 1), some (.if_icmp .ge 23, 3), none, none, some (.aload_n 2, 1), some (.iload 4, 2), none, some (.aaload, 1), some (.astore 5, 2), none, some (.iload_n 1, 1), some (.aload 5, 2), none, some (.getfield 65, 3), none, none, some (.iadd, 1), some (.istore_n 1, 1), some (.iinc 4 1, 3), none, none, some (.goto (-23), 3), none, none, some (.iload_n 1, 1), some (.ireturn, 1)]
def g_m_X0_takenByParts : ri_Mt := (RX0, yX0_takenByParts, cX0_takenByParts, 6, (some .int), g_co_X0_takenByParts, 0)
def g_co_X0_nextBehind : List (Option (Instr × Nat)) := [some (.aconst_null, 1), some (.astore_n 2, 1), some (.aload_n 0, 1), some (.getfield 17, 3), none, none, some (.astore_n 3, 1), some (.aload_n 3, 1), some (.arraylength, 1), some (.istore 4, 2), none, some (.iconst 0, 1), some (.istore 5, 2), none, some (.iload 5, 2), none, some (.iload 4, 2), none, some (.if_icmp .ge 51, 3), none, none, some (.aload_n 3, 1), some (.iload 5, 2), none, some (.aaload, 1), some (.astore 6, 2), none, some (.aload 6, 2), none, some (.invokevirtual 81, 3), none, none, some (.ifCond .eq 31, 3), none, none, some (.aload 6, 2), none, some (.getfield 85, 3), none, none, some (.iload_n 1, 1), some (.if_icmp .le 22, 3), none, none, some (.aload_n 2, 1), some (.ifnull 15, 3), none, none, some (.aload 6, 2), none, some (.getfield 85, 3), none, none, some (.aload_n 2, 1), some (.getfield 85, 3), none, none, some (.if_icmp .ge 6, 3), none, none, some (.aload 6, 2), none, some (.astore_n 2, 1), some (.iinc 5 1, 3), none, none, some (.goto (-52), 3), none, none, some (.aload_n 2, 1), some (.areturn, 1)]
def g_m_X0_nextBehind : ri_Mt := (RX0, yX0_nextBehind, cX0_nextBehind, 7, (some (.object "PartitionBench$Part")), g_co_X0_nextBehind, 0)
def g_co_X0_isMoved : List (Option (Instr × Nat)) := [some (.aload_n 0, 1), some (.getfield 24, 3), none, none, some (.getfield 88, 3), none, none, some (.aload_n 1, 1), some (.getfield 91, 3), none, none, some (.if_icmp .ne 7, 3), none, none, some (.iconst 1, 1), some (.goto 4, 3), none, none, some (.iconst 0, 1), some (.ireturn, 1)]
def g_m_X0_isMoved : ri_Mt := (RX0, yX0_isMoved, cX0_isMoved, 2, (some .boolean), g_co_X0_isMoved, 0)
def g_co_X0_isFree : List (Option (Instr × Nat)) := [some (.aload_n 1, 1), some (.invokevirtual 81, 3), none, none, some (.ifCond .eq 22, 3), none, none, some (.aload_n 1, 1), some (.getfield 94, 3), none, none, some (.ifCond .ne 15, 3), none, none, some (.aload_n 0, 1), some (.aload_n 1, 1), some (.invokevirtual 98, 3), none, none, some (.ifCond .ne 7, 3), none, none, some (.iconst 1, 1), some (.goto 4, 3), none, none, some (.iconst 0, 1), some (.ireturn, 1)]
def g_m_X0_isFree : ri_Mt := (RX0, yX0_isFree, cX0_isFree, 2, (some .boolean), g_co_X0_isFree, 0)
def g_co_X0_usableEnd : List (Option (Instr × Nat)) := [some (.aload_n 0, 1), some (.getfield 34, 3), none, none, some (.aload_n 0, 1), some (.getfield 41, 3), none, none, some (.isub, 1), some (.ireturn, 1)]
def g_m_X0_usableEnd : ri_Mt := (RX0, yX0_usableEnd, cX0_usableEnd, 1, (some .int), g_co_X0_usableEnd, 0)
def g_co_X0_isUsable : List (Option (Instr × Nat)) := [some (.lload_n 3, 1), some (.lconst 0, 1), some (.lcmp, 1), some (.ifCond .le 29, 3), none, none, some (.lload_n 1, 1), some (.aload_n 0, 1), some (.getfield 38, 3), none, none, some (.i2l, 1), some (.lcmp, 1), some (.ifCond .lt 19, 3), none, none, some (.lload_n 1, 1), some (.lload_n 3, 1), some (.ladd, 1), some (.aload_n 0, 1), some (.invokevirtual 102, 3), none, none, some (.i2l, 1), some (.lcmp, 1), some (.ifCond .gt 7, 3), none, none, some (.iconst 1, 1), some (.goto 4, 3), none, none, some (.iconst 0, 1), some (.ireturn, 1)]
def g_m_X0_isUsable : ri_Mt := (RX0, yX0_isUsable, cX0_isUsable, 5, (some .boolean), g_co_X0_isUsable, 0)
def g_co_X0_isAligned : List (Option (Instr × Nat)) := [some (.aload_n 0, 1), some (.getfield 44, 3), none, none, some (.ifCond .le 16, 3), none, none, some (.iload_n 1, 1), some (.aload_n 0, 1), some (.getfield 44, 3), none, none, some (.irem, 1), some (.ifCond .ne 7, 3), none, none, some (.iconst 1, 1), some (.goto 4, 3), none, none, some (.iconst 0, 1), some (.ireturn, 1)]
def g_m_X0_isAligned : ri_Mt := (RX0, yX0_isAligned, cX0_isAligned, 2, (some .boolean), g_co_X0_isAligned, 0)
def g_co_X0_meeting : List (Option (Instr × Nat)) := [some (.iconst 0, 1), some (.istore 5, 2), none, some (.aload_n 0, 1), some (.getfield 17, 3), none, none, some (.astore 6, 2), none, some (.aload 6, 2), none, some (.arraylength, 1), some (.istore 7, 2), none, some (.iconst 0, 1), some (.istore 8, 2), none, some (.iload 8, 2), none, some (.iload 7, 2), none, some (.if_icmp .ge 38, 3), none, none, some (.aload 6, 2), none, some (.iload 8, 2), none, some (.aaload, 1), some (.astore 9, 2), none, some (.aload 9, 2), none, some (.lload_n 1, 1), some (.lload_n 3, 1), some (.invokevirtual 106, 3), none, none, some (.ifCond .eq 15, 3), none, none, some (.iload 5, 2), none, some (.iconst 1, 1), some (.aload 9, 2), none, some (.getfield 91, 3), none, none, some (.ishl, 1), some (.ior, 1), some (.istore 5, 2), none, some (.iinc 8 1, 3), none, none, some (.goto (-39), 3), none, none, some (.iload 5, 2), none, some (.ireturn, 1)]
def g_m_X0_meeting : ri_Mt := (RX0, yX0_meeting, cX0_meeting, 10, (some .int), g_co_X0_meeting, 0)
def g_co_X0_meetingOthers : List (Option (Instr × Nat)) := [some (.aload_n 0, 1), some (.iload_n 2, 1), some (.i2l, 1), some (.iload_n 3, 1), some (.i2l, 1), some (.invokevirtual 110, 3), none, none, some (.iconst 1, 1), some (.aload_n 1, 1), some (.getfield 91, 3), none, none, some (.ishl, 1), some (.iconst (-1), 1), some (.ixor, 1), some (.iand, 1), some (.ireturn, 1)]
def g_m_X0_meetingOthers : ri_Mt := (RX0, yX0_meetingOthers, cX0_meetingOthers, 4, (some .int), g_co_X0_meetingOthers, 0)
def g_co_X0_endOfTaken : List (Option (Instr × Nat)) := [some (.aload_n 0, 1), some (.getfield 17, 3), none, none, some (.astore_n 2, 1), some (.aload_n 2, 1), some (.arraylength, 1), some (.istore_n 3, 1), some (.iconst 0, 1), some (.istore 4, 2), none, some (.iload 4, 2), none, some (.iload_n 3, 1), some (.if_icmp .ge 32, 3), none, none, some (.aload_n 2, 1), some (.iload 4, 2), none, some (.aaload, 1), some (.astore 5, 2), none, some (.aload 5, 2), none, some (.iload_n 1, 1), some (.i2l, 1), some (.lconst 1, 1), some (.invokevirtual 106, 3), none, none, some (.ifCond .eq 9, 3), none, none, some (.aload 5, 2), none, some (.invokevirtual 114, 3), none, none, some (.ireturn, 1), some (.iinc 4 1, 3), none, none, some (.goto (-32), 3), none, none, some (.aload_n 0, 1), some (.getfield 24, 3), none, none, some (.iload_n 1, 1), some (.invokevirtual 117, 3), none, none, some (.ireturn, 1)]
def g_m_X0_endOfTaken : ri_Mt := (RX0, yX0_endOfTaken, cX0_endOfTaken, 6, (some .int), g_co_X0_endOfTaken, 0)
def g_co_X0_nextTaken : List (Option (Instr × Nat)) := [some (.aload_n 0, 1), some (.getfield 24, 3), none, none, some (.iload_n 1, 1), some (.aload_n 0, 1), some (.invokevirtual 102, 3), none, none, some (.invokevirtual 121, 3), none, none, some (.istore_n 2, 1), some (.aload_n 0, 1), some (.iload_n 1, 1), some (.invokevirtual 125, 3), none, none, some (.astore_n 3, 1), some (.aload_n 3, 1), some (.ifnonnull 7, 3), none, none, some (.iload_n 2, 1), some (.goto 11, 3), none, none, some (.iload_n 2, 1), some (.aload_n 3, 1), some (.getfield 85, 3), none, none, some (.invokestatic 129, 3), none, none, some (.ireturn, 1)]
def g_m_X0_nextTaken : ri_Mt := (RX0, yX0_nextTaken, cX0_nextTaken, 4, (some .int), g_co_X0_nextTaken, 0)
def g_co_X0_whyNotTake : List (Option (Instr × Nat)) := [some (.aload_n 0, 1), some (.iload_n 1, 1), some (.i2l, 1), some (.iload_n 2, 1), some (.i2l, 1), some (.invokevirtual 134, 3), none, none, some (.ifCond .ne 5, 3), none, none, some (.iconst 1, 1), some (.ireturn, 1), some (.aload_n 0, 1), some (.iload_n 1, 1), some (.invokevirtual 137, 3), none, none, some (.ifCond .ne 5, 3), none, none, some (.iconst 2, 1), some (.ireturn, 1), some (.aload_n 0, 1), some (.iload_n 1, 1), some (.i2l, 1), some (.iload_n 2, 1), some (.i2l, 1), some (.invokevirtual 110, 3), none, none, some (.ifCond .eq 5, 3), none, none, some (.iconst 3, 1), some (.ireturn, 1), some (.aload_n 0, 1), some (.getfield 24, 3), none, none, some (.iload_n 1, 1), some (.i2l, 1), some (.iload_n 2, 1), some (.i2l, 1), some (.invokevirtual 141, 3), none, none, some (.ifCond .eq 7, 3), none, none, some (.iconst 4, 1), some (.goto 4, 3), none, none, some (.iconst 0, 1), some (.ireturn, 1)]
def g_m_X0_whyNotTake : ri_Mt := (RX0, yX0_whyNotTake, cX0_whyNotTake, 3, (some .int), g_co_X0_whyNotTake, 0)
def g_co_X0_whyNotSize : List (Option (Instr × Nat)) := [some (.aload_n 1, 1), some (.getfield 94, 3), none, none, some (.ifCond .eq 5, 3), none, none, some (.iconst 1, 1), some (.ireturn, 1), some (.aload_n 0, 1), some (.aload_n 1, 1), some (.invokevirtual 98, 3), none, none, some (.ifCond .eq 7, 3), none, none, some (.iconst 2, 1), some (.goto 9, 3), none, none, some (.aload_n 0, 1), some (.aload_n 1, 1), some (.iload_n 2, 1), some (.invokevirtual 144, 3), none, none, some (.ireturn, 1)]
def g_m_X0_whyNotSize : ri_Mt := (RX0, yX0_whyNotSize, cX0_whyNotSize, 3, (some .int), g_co_X0_whyNotSize, 0)
def g_co_X0_whyNoRoomFor : List (Option (Instr × Nat)) := [some (.iload_n 2, 1), some (.aload_n 1, 1), some (.getfield 148, 3), none, none, some (.if_icmp .ge 5, 3), none, none, some (.iconst 3, 1), some (.ireturn, 1), some (.aload_n 0, 1), some (.aload_n 1, 1), some (.getfield 85, 3), none, none, some (.i2l, 1), some (.iload_n 2, 1), some (.i2l, 1), some (.invokevirtual 134, 3), none, none, some (.ifCond .ne 5, 3), none, none, some (.iconst 4, 1), some (.ireturn, 1), some (.aload_n 0, 1), some (.aload_n 1, 1), some (.aload_n 1, 1), some (.getfield 85, 3), none, none, some (.iload_n 2, 1), some (.invokevirtual 151, 3), none, none, some (.ifCond .eq 5, 3), none, none, some (.iconst 5, 1), some (.ireturn, 1), some (.iload_n 2, 1), some (.aload_n 1, 1), some (.getfield 65, 3), none, none, some (.if_icmp .le 30, 3), none, none, some (.aload_n 0, 1), some (.getfield 24, 3), none, none, some (.aload_n 1, 1), some (.invokevirtual 114, 3), none, none, some (.i2l, 1), some (.iload_n 2, 1), some (.aload_n 1, 1), some (.getfield 65, 3), none, none, some (.isub, 1), some (.i2l, 1), some (.invokevirtual 141, 3), none, none, some (.ifCond .eq 8, 3), none, none, some (.bipush 6, 2), none, some (.goto 4, 3), none, none, some (.iconst 0, 1), some (.ireturn, 1)]
def g_m_X0_whyNoRoomFor : ri_Mt := (RX0, yX0_whyNoRoomFor, cX0_whyNoRoomFor, 3, (some .int), g_co_X0_whyNoRoomFor, 0)
def g_co_X0_whyNotMove : List (Option (Instr × Nat)) := [some (.aload_n 1, 1), some (.getfield 94, 3), none, none, some (.ifCond .eq 5, 3), none, none, some (.iconst 1, 1), some (.ireturn, 1), some (.aload_n 0, 1), some (.getfield 24, 3), none, none, some (.invokevirtual 155, 3), none, none, some (.ifCond .eq 5, 3), none, none, some (.iconst 2, 1), some (.ireturn, 1), some (.iload_n 2, 1), some (.aload_n 1, 1), some (.getfield 85, 3), none, none, some (.if_icmp .ne 5, 3), none, none, some (.iconst 3, 1), some (.ireturn, 1), some (.aload_n 0, 1), some (.iload_n 2, 1), some (.i2l, 1), some (.aload_n 1, 1), some (.getfield 65, 3), none, none, some (.i2l, 1), some (.invokevirtual 134, 3), none, none, some (.ifCond .ne 5, 3), none, none, some (.iconst 4, 1), some (.ireturn, 1), some (.aload_n 0, 1), some (.iload_n 2, 1), some (.invokevirtual 137, 3), none, none, some (.ifCond .ne 5, 3), none, none, some (.iconst 5, 1), some (.ireturn, 1), some (.aload_n 0, 1), some (.aload_n 1, 1), some (.iload_n 2, 1), some (.aload_n 1, 1), some (.getfield 65, 3), none, none, some (.invokevirtual 151, 3), none, none, some (.ifCond .eq 6, 3), none, none, some (.bipush 6, 2), none, some (.ireturn, 1), some (.aload_n 0, 1), some (.aload_n 1, 1), some (.iload_n 2, 1), some (.iload_n 3, 1), some (.invokevirtual 158, 3), none, none, some (.ifCond .eq 19, 3), none, none, some (.aload_n 0, 1), some (.aload_n 1, 1), some (.iload_n 2, 1), some (.iload_n 3, 1), some (.invokevirtual 162, 3), none, none, some (.iconst (-1), 1), some (.if_icmp .ne 8, 3), none, none, some (.bipush 7, 2), none, some (.goto 4, 3), none, none, some (.iconst 0, 1), some (.ireturn, 1)]
def g_m_X0_whyNotMove : ri_Mt := (RX0, yX0_whyNotMove, cX0_whyNotMove, 4, (some .int), g_co_X0_whyNotMove, 0)
def g_co_X0_needsScratch : List (Option (Instr × Nat)) := [some (.iload_n 3, 1), some (.aload_n 1, 1), some (.getfield 65, 3), none, none, some (.invokestatic 129, 3), none, none, some (.aload_n 1, 1), some (.getfield 85, 3), none, none, some (.iload_n 2, 1), some (.invokestatic 165, 3), none, none, some (.if_icmp .le 7, 3), none, none, some (.iconst 1, 1), some (.goto 4, 3), none, none, some (.iconst 0, 1), some (.ireturn, 1)]
def g_m_X0_needsScratch : ri_Mt := (RX0, yX0_needsScratch, cX0_needsScratch, 4, (some .boolean), g_co_X0_needsScratch, 0)
def g_co_X0_scratchFor : List (Option (Instr × Nat)) := [some (.iload_n 3, 1), some (.aload_n 1, 1), some (.getfield 65, 3), none, none, some (.invokestatic 129, 3), none, none, some (.istore 4, 2), none, some (.aload_n 0, 1), some (.invokevirtual 102, 3), none, none, some (.iload 4, 2), none, some (.isub, 1), some (.istore 5, 2), none, some (.iconst 0, 1), some (.istore 6, 2), none, some (.iload 6, 2), none, some (.sipush 600, 3), none, none, some (.if_icmp .ge 46, 3), none, none, some (.iload 5, 2), none, some (.aload_n 0, 1), some (.getfield 38, 3), none, none, some (.if_icmp .lt 37, 3), none, none, some (.aload_n 0, 1), some (.aload_n 1, 1), some (.iload_n 2, 1), some (.iload 5, 2), none, some (.iload 4, 2), none, some (.invokevirtual 168, 3), none, none, some (.istore 7, 2), none, some (.iload 7, 2), none, some (.iconst (-1), 1), some (.if_icmp .ne 6, 3), none, none, some (.iload 5, 2), none, some (.ireturn, 1), some (.iload 7, 2), none, some (.iload 4, 2), none, some (.isub, 1), some (.istore 5, 2), none, some (.iinc 6 1, 3), none, none, some (.goto (-48), 3), none, none, some (.iconst (-1), 1), some (.ireturn, 1)]
def g_m_X0_scratchFor : ri_Mt := (RX0, yX0_scratchFor, cX0_scratchFor, 8, (some .int), g_co_X0_scratchFor, 0)
def g_co_X0_startInTheWay : List (Option (Instr × Nat)) := [some (.aload_n 0, 1), some (.getfield 17, 3), none, none, some (.astore 5, 2), none, some (.aload 5, 2), none, some (.arraylength, 1), some (.istore 6, 2), none, some (.iconst 0, 1), some (.istore 7, 2), none, some (.iload 7, 2), none, some (.iload 6, 2), none, some (.if_icmp .ge 35, 3), none, none, some (.aload 5, 2), none, some (.iload 7, 2), none, some (.aaload, 1), some (.astore 8, 2), none, some (.aload 8, 2), none, some (.iload_n 3, 1), some (.i2l, 1), some (.iload 4, 2), none, some (.i2l, 1), some (.invokevirtual 106, 3), none, none, some (.ifCond .eq 9, 3), none, none, some (.aload 8, 2), none, some (.getfield 85, 3), none, none, some (.ireturn, 1), some (.iinc 7 1, 3), none, none, some (.goto (-36), 3), none, none, some (.iload_n 2, 1), some (.i2l, 1), some (.aload_n 1, 1), some (.getfield 65, 3), none, none, some (.i2l, 1), some (.iload_n 3, 1), some (.i2l, 1), some (.iload 4, 2), none, some (.i2l, 1), some (.invokestatic 172, 3), none, none, some (.ifCond .eq 7, 3), none, none, some (.iload_n 2, 1), some (.goto 4, 3), none, none, some (.iconst (-1), 1), some (.ireturn, 1)]
def g_m_X0_startInTheWay : ri_Mt := (RX0, yX0_startInTheWay, cX0_startInTheWay, 9, (some .int), g_co_X0_startInTheWay, 0)
def g_co_X0_numberAt : List (Option (Instr × Nat)) := [some (.iload_n 1, 1), some (.ifCond .lt 12, 3), none, none, some (.iload_n 1, 1), some (.aload_n 0, 1), some (.getfield 9, 3), none, none, some (.arraylength, 1), some (.if_icmp .lt 7, 3), none, none, some (.iconst 0, 1), some (.goto 9, 3), none, none, some (.aload_n 0, 1), some (.getfield 9, 3), none, none, some (.iload_n 1, 1), some (.iaload, 1), some (.ireturn, 1)]
def g_m_X0_numberAt : ri_Mt := (RX0, yX0_numberAt, cX0_numberAt, 2, (some .int), g_co_X0_numberAt, 0)
def g_co_X0_write : List (Option (Instr × Nat)) := [some (.iload_n 1, 1), some (.ifCond .lt 19, 3), none, none, some (.iload_n 1, 1), some (.aload_n 0, 1), some (.getfield 9, 3), none, none, some (.arraylength, 1), some (.if_icmp .ge 10, 3), none, none, some (.aload_n 0, 1), some (.getfield 9, 3), none, none, some (.iload_n 1, 1), some (.iload_n 2, 1), some (.iastore, 1), some (.return_, 1)]
def g_m_X0_write : ri_Mt := (RX0, yX0_write, cX0_write, 3, none, g_co_X0_write, 0)
def g_co_X0_writeBlocks : List (Option (Instr × Nat)) := [some (.iload_n 2, 1), some (.istore_n 3, 1), some (.iload_n 3, 1), some (.aload_n 1, 1), some (.getfield 65, 3), none, none, some (.if_icmp .ge 24, 3), none, none, some (.aload_n 0, 1), some (.aload_n 1, 1), some (.getfield 85, 3), none, none, some (.iload_n 3, 1), some (.iadd, 1), some (.aload_n 1, 1), some (.iload_n 3, 1), some (.invokevirtual 176, 3), none, none, some (.invokevirtual 179, 3), none, none, some (.iinc 3 1, 3), none, none, some (.goto (-26), 3), none, none, some (.return_, 1)]
def g_m_X0_writeBlocks : ri_Mt := (RX0, yX0_writeBlocks, cX0_writeBlocks, 4, none, g_co_X0_writeBlocks, 0)
def g_co_X0_placeOf : List (Option (Instr × Nat)) := [some (.aload_n 0, 1), some (.aload_n 1, 1), some (.invokevirtual 98, 3), none, none, some (.ifCond .eq 14, 3), none, none, some (.aload_n 0, 1), some (.getfield 24, 3), none, none, some (.iload_n 2, 1), some (.invokevirtual 183, 3), none, none, some (.goto 9, 3), none, none, some (.aload_n 1, 1), some (.getfield 85, 3), none, none, some (.iload_n 2, 1), some (.iadd, 1), some (.ireturn, 1)]
def g_m_X0_placeOf : ri_Mt := (RX0, yX0_placeOf, cX0_placeOf, 3, (some .int), g_co_X0_placeOf, 0)
def g_co_X0_holderOf : List (Option (Instr × Nat)) := [some (.aload_n 0, 1), some (.getfield 24, 3), none, none, some (.invokevirtual 155, 3), none, none, some (.ifCond .eq 33, 3), none, none, some (.aload_n 0, 1), some (.aload_n 0, 1), some (.getfield 24, 3), none, none, some (.getfield 88, 3), none, none, some (.invokevirtual 186, 3), none, none, some (.astore_n 2, 1), some (.aload_n 2, 1), some (.ifnull 17, 3), none, none, some (.aload_n 0, 1), some (.aload_n 2, 1), some (.iload_n 1, 1), some (.invokevirtual 189, 3), none, none, some (.ifCond .eq 8, 3), none, none, some (.aload_n 2, 1), some (.getfield 91, 3), none, none, some (.ireturn, 1), some (.aload_n 0, 1), some (.getfield 17, 3), none, none, some (.astore_n 2, 1), some (.aload_n 2, 1), some (.arraylength, 1), some (.istore_n 3, 1), some (.iconst 0, 1), some (.istore 4, 2), none, some (.iload 4, 2), none, some (.iload_n 3, 1), some (.if_icmp .ge 41, 3), none, none, some (.aload_n 2, 1), some (.iload 4, 2), none, some (.aaload, 1), some (.astore 5, 2), none, some (.aload_n 0, 1), some (.aload 5, 2), none, some (.invokevirtual 98, 3), none, none, some (.ifCond .ne 20, 3), none, none, some (.aload 5, 2), none, some (.iload_n 1, 1), some (.i2l, 1), some (.lconst 1, 1), some (.invokevirtual 106, 3), none, none, some (.ifCond .eq 9, 3), none, none, some (.aload 5, 2), none, some (.getfield 91, 3), none, none, some (.ireturn, 1), some (.iinc 4 1, 3), none, none, some (.goto (-41), 3), none, none, some (.iconst (-1), 1), some (.ireturn, 1)]
def g_m_X0_holderOf : ri_Mt := (RX0, yX0_holderOf, cX0_holderOf, 6, (some .int), g_co_X0_holderOf, 0)
def g_co_X0_hasPlace : List (Option (Instr × Nat)) := [some (.aload_n 0, 1), some (.aload_n 1, 1), some (.iload_n 2, 1), some (.aload_n 0, 1), some (.getfield 24, 3), none, none, some (.getfield 193, 3), none, none, some (.isub, 1), some (.iload_n 2, 1), some (.invokevirtual 196, 3), none, none, some (.ifCond .ne 57, 3), none, none, some (.aload_n 0, 1), some (.aload_n 1, 1), some (.iload_n 2, 1), some (.aload_n 0, 1), some (.getfield 24, 3), none, none, some (.getfield 199, 3), none, none, some (.isub, 1), some (.iload_n 2, 1), some (.invokevirtual 196, 3), none, none, some (.ifCond .ne 39, 3), none, none, some (.aload_n 0, 1), some (.getfield 24, 3), none, none, some (.getfield 202, 3), none, none, some (.ifCond .eq 33, 3), none, none, some (.aload_n 0, 1), some (.aload_n 1, 1), some (.iload_n 2, 1), some (.aload_n 0, 1), some (.getfield 24, 3), none, none, some (.getfield 205, 3), none, none, some (.isub, 1), some (.aload_n 0, 1), some (.getfield 24, 3), none, none, some (.invokevirtual 208, 3), none, none, some (.iadd, 1), some (.iload_n 2, 1), some (.invokevirtual 196, 3), none, none, some (.ifCond .eq 7, 3), none, none, some (.iconst 1, 1), some (.goto 4, 3), none, none, some (.iconst 0, 1), some (.ireturn, 1)]
def g_m_X0_hasPlace : ri_Mt := (RX0, yX0_hasPlace, cX0_hasPlace, 3, (some .boolean), g_co_X0_hasPlace, 0)
def g_co_X0_isPlaceOf : List (Option (Instr × Nat)) := [some (.iload_n 2, 1), some (.ifCond .lt 27, 3), none, none, some (.iload_n 2, 1), some (.aload_n 1, 1), some (.getfield 65, 3), none, none, some (.if_icmp .ge 19, 3), none, none, some (.aload_n 0, 1), some (.getfield 24, 3), none, none, some (.iload_n 2, 1), some (.invokevirtual 183, 3), none, none, some (.iload_n 3, 1), some (.if_icmp .ne 7, 3), none, none, some (.iconst 1, 1), some (.goto 4, 3), none, none, some (.iconst 0, 1), some (.ireturn, 1)]
def g_m_X0_isPlaceOf : ri_Mt := (RX0, yX0_isPlaceOf, cX0_isPlaceOf, 4, (some .boolean), g_co_X0_isPlaceOf, 0)
def g_co_X0_keepsWhole : List (Option (Instr × Nat)) := [some (.iconst 0, 1), some (.istore_n 2, 1), some (.iload_n 2, 1), some (.aload_n 1, 1), some (.getfield 65, 3), none, none, some (.if_icmp .ge 29, 3), none, none, some (.aload_n 0, 1), some (.aload_n 0, 1), some (.aload_n 1, 1), some (.iload_n 2, 1), some (.invokevirtual 211, 3), none, none, some (.invokevirtual 214, 3), none, none, some (.aload_n 1, 1), some (.iload_n 2, 1), some (.invokevirtual 176, 3), none, none, some (.if_icmp .eq 5, 3), none, none, some (.iconst 0, 1), some (.ireturn, 1), some (.iinc 2 1, 3), none, none, some (.goto (-31), 3), none, none, some (.iconst 1, 1), some (.ireturn, 1)]
def g_m_X0_keepsWhole : ri_Mt := (RX0, yX0_keepsWhole, cX0_keepsWhole, 3, (some .boolean), g_co_X0_keepsWhole, 0)
def g_co_X0_leftOverOf : List (Option (Instr × Nat)) := [some (.iconst 0, 1), some (.istore_n 2, 1), some (.iconst 0, 1), some (.istore_n 3, 1), some (.iload_n 3, 1), some (.aload_n 0, 1), some (.getfield 34, 3), none, none, some (.if_icmp .ge 50, 3), none, none, some (.aload_n 0, 1), some (.iload_n 3, 1), some (.invokevirtual 214, 3), none, none, some (.aload_n 1, 1), some (.iconst 0, 1), some (.invokevirtual 176, 3), none, none, some (.isub, 1), some (.istore 4, 2), none, some (.iload 4, 2), none, some (.ifCond .lt 26, 3), none, none, some (.iload 4, 2), none, some (.aload_n 1, 1), some (.getfield 65, 3), none, none, some (.if_icmp .ge 17, 3), none, none, some (.aload_n 0, 1), some (.aload_n 1, 1), some (.iload 4, 2), none, some (.invokevirtual 211, 3), none, none, some (.iload_n 3, 1), some (.if_icmp .eq 6, 3), none, none, some (.iinc 2 1, 3), none, none, some (.iinc 3 1, 3), none, none, some (.goto (-52), 3), none, none, some (.iload_n 2, 1), some (.ireturn, 1)]
def g_m_X0_leftOverOf : ri_Mt := (RX0, yX0_leftOverOf, cX0_leftOverOf, 5, (some .int), g_co_X0_leftOverOf, 0)
def g_co_X0_wipeOut : List (Option (Instr × Nat)) := [some (.iconst 0, 1), some (.istore_n 1, 1), some (.iconst 0, 1), some (.istore_n 2, 1), some (.iload_n 2, 1), some (.aload_n 0, 1), some (.getfield 34, 3), none, none, some (.if_icmp .ge 35, 3), none, none, some (.aload_n 0, 1), some (.iload_n 2, 1), some (.invokevirtual 214, 3), none, none, some (.ifCond .eq 21, 3), none, none, some (.aload_n 0, 1), some (.iload_n 2, 1), some (.invokevirtual 217, 3), none, none, some (.iconst (-1), 1), some (.if_icmp .ne 12, 3), none, none, some (.aload_n 0, 1), some (.iload_n 2, 1), some (.iconst 0, 1), some (.invokevirtual 179, 3), none, none, some (.iinc 1 1, 3), none, none, some (.iinc 2 1, 3), none, none, some (.goto (-37), 3), none, none, some (.iload_n 1, 1), some (.ireturn, 1)]
def g_m_X0_wipeOut : ri_Mt := (RX0, yX0_wipeOut, cX0_wipeOut, 3, (some .int), g_co_X0_wipeOut, 0)
def g_co_X0_make : List (Option (Instr × Nat)) := [some (.aload_n 0, 1), some (.getfield 17, 3), none, none, some (.astore 5, 2), none, some (.aload 5, 2), none, some (.arraylength, 1), some (.istore 6, 2), none, some (.iconst 0, 1), some (.istore 7, 2), none, some (.iload 7, 2), none, some (.iload 6, 2), none, some (.if_icmp .ge 93, 3), none, none, some (.aload 5, 2), none, some (.iload 7, 2), none, some (.aaload, 1), some (.astore 8, 2), none, some (.aload 8, 2), none, some (.invokevirtual 81, 3), none, none, some (.ifCond .ne 72, 3), none, none, some (.aload 8, 2), none, some (.iload_n 1, 1), some (.putfield 85, 3), none, none, some (.aload 8, 2), none, some (.iload_n 2, 1), some (.putfield 65, 3), none, none, some (.aload 8, 2), none, some (.iload 4, 2), none, some (.putfield 148, 3), none, none, some (.aload 8, 2), none, some (.iload_n 3, 1), some (.putfield 220, 3), none, none, some (.aload 8, 2), none, some (.iconst 0, 1), some (.putfield 94, 3), none, none, some (.aload 8, 2), none, some (.aload_n 0, 1), some (.getfield 50, 3), none, none, some (.putfield 223, 3), none, none, some (.aload 8, 2), none, some (.iconst 0, 1), some (.putfield 226, 3), none, none, some (.aload_n 0, 1), some (.dup, 1), some (.getfield 50, 3), none, none, some (.iconst 1, 1), some (.iadd, 1), some (.putfield 50, 3), none, none, some (.aload_n 0, 1), some (.aload 8, 2), none, some (.iconst 0, 1), some (.invokevirtual 229, 3), none, none, some (.aload 8, 2), none, some (.getfield 91, 3), none, none, some (.ireturn, 1), some (.iinc 7 1, 3), none, none, some (.goto (-94), 3), none, none, some (.iconst (-1), 1), some (.ireturn, 1)]
def g_m_X0_make : ri_Mt := (RX0, yX0_make, cX0_make, 9, (some .int), g_co_X0_make, 0)
def g_co_X0_giveSize : List (Option (Instr × Nat)) := [some (.aload_n 1, 1), some (.getfield 65, 3), none, none, some (.istore_n 3, 1), some (.aload_n 1, 1), some (.iload_n 2, 1), some (.putfield 65, 3), none, none, some (.aload_n 0, 1), some (.aload_n 1, 1), some (.iload_n 3, 1), some (.invokevirtual 229, 3), none, none, some (.return_, 1)]
def g_m_X0_giveSize : ri_Mt := (RX0, yX0_giveSize, cX0_giveSize, 4, none, g_co_X0_giveSize, 0)
def g_co_X0_stepsOrNone : List (Option (Instr × Nat)) := [some (.aload_n 0, 1), some (.aload_n 1, 1), some (.iload_n 2, 1), some (.iload_n 3, 1), some (.invokevirtual 233, 3), none, none, some (.ifCond .eq 5, 3), none, none, some (.iconst (-1), 1), some (.ireturn, 1), some (.aload_n 1, 1), some (.getfield 65, 3), none, none, some (.iload_n 3, 1), some (.aload_n 1, 1), some (.getfield 85, 3), none, none, some (.iload_n 2, 1), some (.invokestatic 165, 3), none, none, some (.invokestatic 236, 3), none, none, some (.ireturn, 1)]
def g_m_X0_stepsOrNone : ri_Mt := (RX0, yX0_stepsOrNone, cX0_stepsOrNone, 4, (some .int), g_co_X0_stepsOrNone, 0)
def g_co_X0_beginMove : List (Option (Instr × Nat)) := [some (.aload_n 0, 1), some (.getfield 24, 3), none, none, some (.aload_n 0, 1), some (.aload_n 1, 1), some (.iload_n 2, 1), some (.aload_n 0, 1), some (.getfield 47, 3), none, none, some (.invokevirtual 158, 3), none, none, some (.ifCond .eq 16, 3), none, none, some (.aload_n 0, 1), some (.aload_n 1, 1), some (.iload_n 2, 1), some (.aload_n 0, 1), some (.getfield 47, 3), none, none, some (.invokevirtual 162, 3), none, none, some (.goto 4, 3), none, none, some (.iconst (-1), 1), some (.putfield 205, 3), none, none, some (.aload_n 0, 1), some (.getfield 24, 3), none, none, some (.aload_n 1, 1), some (.getfield 91, 3), none, none, some (.putfield 88, 3), none, none, some (.aload_n 0, 1), some (.getfield 24, 3), none, none, some (.aload_n 1, 1), some (.getfield 65, 3), none, none, some (.putfield 240, 3), none, none, some (.aload_n 0, 1), some (.getfield 24, 3), none, none, some (.aload_n 1, 1), some (.getfield 85, 3), none, none, some (.putfield 199, 3), none, none, some (.aload_n 0, 1), some (.getfield 24, 3), none, none, some (.iload_n 2, 1), some (.putfield 193, 3), none, none, some (.aload_n 0, 1), some (.getfield 24, 3), none, none, some (.aload_n 0, 1), some (.getfield 47, 3), none, none, some (.putfield 241, 3), none, none, some (.aload_n 0, 1), some (.getfield 24, 3), none, none, some (.aload_n 0, 1), some (.getfield 47, 3), none, none, some (.iconst 1, 1), some (.if_icmp .ge 7, 3), none, none, some (.iconst 0, 1), some (.goto 19, 3), none, none, some (.aload_n 1, 1), some (.getfield 65, 3), none, none, some (.aload_n 0, 1), some (.getfield 47, 3), none, none, some (.iadd, 1), some (.iconst 1, 1), some (.isub, 1), some (.aload_n 0, 1), some (.getfield 47, 3), none, none, some (.idiv, 1), some (.putfield 242, 3), none, none, some (.aload_n 0, 1), some (.getfield 24, 3), none, none, some (.iconst 0, 1), some (.putfield 245, 3), none, none, some (.aload_n 0, 1), some (.getfield 24, 3), none, none, some (.iconst 0, 1), some (.putfield 202, 3), none, none, some (.return_, 1)]
def g_m_X0_beginMove : ri_Mt := (RX0, yX0_beginMove, cX0_beginMove, 3, none, g_co_X0_beginMove, 0)
def g_co_X0_doSteps : List (Option (Instr × Nat)) := [some (.iconst 0, 1), some (.istore_n 2, 1), some (.iload_n 2, 1), some (.iload_n 1, 1), some (.if_icmp .ge 23, 3), none, none, some (.aload_n 0, 1), some (.getfield 24, 3), none, none, some (.invokevirtual 155, 3), none, none, some (.ifCond .eq 13, 3), none, none, some (.aload_n 0, 1), some (.invokevirtual 248, 3), none, none, some (.iinc 2 1, 3), none, none, some (.goto (-22), 3), none, none, some (.aload_n 0, 1), some (.dup, 1), some (.getfield 53, 3), none, none, some (.iload_n 2, 1), some (.iadd, 1), some (.putfield 53, 3), none, none, some (.iload_n 2, 1), some (.ireturn, 1)]
def g_m_X0_doSteps : ri_Mt := (RX0, yX0_doSteps, cX0_doSteps, 3, (some .int), g_co_X0_doSteps, 0)
def g_co_X0_doStep : List (Option (Instr × Nat)) := [some (.aload_n 0, 1), some (.getfield 24, 3), none, none, some (.invokevirtual 208, 3), none, none, some (.istore_n 1, 1), some (.aload_n 0, 1), some (.aload_n 0, 1), some (.getfield 24, 3), none, none, some (.iload_n 1, 1), some (.invokevirtual 251, 3), none, none, some (.aload_n 0, 1), some (.getfield 24, 3), none, none, some (.iload_n 1, 1), some (.invokevirtual 254, 3), none, none, some (.aload_n 0, 1), some (.getfield 24, 3), none, none, some (.invokevirtual 257, 3), none, none, some (.invokevirtual 260, 3), none, none, some (.aload_n 0, 1), some (.getfield 24, 3), none, none, some (.invokevirtual 264, 3), none, none, some (.iconst 1, 1), some (.if_icmp .ne 12, 3), none, none, some (.aload_n 0, 1), some (.getfield 24, 3), none, none, some (.iconst 1, 1), some (.putfield 202, 3), none, none, some (.return_, 1), some (.aload_n 0, 1), some (.getfield 24, 3), none, none, some (.iconst 0, 1), some (.putfield 202, 3), none, none, some (.aload_n 0, 1), some (.getfield 24, 3), none, none, some (.dup, 1), some (.getfield 245, 3), none, none, some (.iconst 1, 1), some (.iadd, 1), some (.putfield 245, 3), none, none, some (.aload_n 0, 1), some (.getfield 24, 3), none, none, some (.getfield 245, 3), none, none, some (.aload_n 0, 1), some (.getfield 24, 3), none, none, some (.getfield 242, 3), none, none, some (.if_icmp .lt 7, 3), none, none, some (.aload_n 0, 1), some (.invokevirtual 267, 3), none, none, some (.return_, 1)]
def g_m_X0_doStep : ri_Mt := (RX0, yX0_doStep, cX0_doStep, 2, none, g_co_X0_doStep, 0)
def g_co_X0_tearStep : List (Option (Instr × Nat)) := [some (.aload_n 0, 1), some (.getfield 24, 3), none, none, some (.invokevirtual 208, 3), none, none, some (.istore_n 1, 1), some (.aload_n 0, 1), some (.getfield 24, 3), none, none, some (.invokevirtual 257, 3), none, none, some (.iconst 2, 1), some (.idiv, 1), some (.istore_n 2, 1), some (.aload_n 0, 1), some (.aload_n 0, 1), some (.getfield 24, 3), none, none, some (.iload_n 1, 1), some (.invokevirtual 251, 3), none, none, some (.aload_n 0, 1), some (.getfield 24, 3), none, none, some (.iload_n 1, 1), some (.invokevirtual 254, 3), none, none, some (.iload_n 2, 1), some (.invokevirtual 260, 3), none, none, some (.aload_n 0, 1), some (.dup, 1), some (.getfield 56, 3), none, none, some (.iconst 1, 1), some (.iadd, 1), some (.putfield 56, 3), none, none, some (.iload_n 2, 1), some (.ireturn, 1)]
def g_m_X0_tearStep : ri_Mt := (RX0, yX0_tearStep, cX0_tearStep, 3, (some .int), g_co_X0_tearStep, 0)
def g_co_X0_copySectors : List (Option (Instr × Nat)) := [some (.iconst 0, 1), some (.istore 4, 2), none, some (.iload 4, 2), none, some (.iload_n 3, 1), some (.if_icmp .ge 25, 3), none, none, some (.aload_n 0, 1), some (.iload_n 2, 1), some (.iload 4, 2), none, some (.iadd, 1), some (.aload_n 0, 1), some (.iload_n 1, 1), some (.iload 4, 2), none, some (.iadd, 1), some (.invokevirtual 214, 3), none, none, some (.invokevirtual 179, 3), none, none, some (.iinc 4 1, 3), none, none, some (.goto (-25), 3), none, none, some (.return_, 1)]
def g_m_X0_copySectors : ri_Mt := (RX0, yX0_copySectors, cX0_copySectors, 5, none, g_co_X0_copySectors, 0)
def g_co_X0_endMove : List (Option (Instr × Nat)) := [some (.aload_n 0, 1), some (.aload_n 0, 1), some (.getfield 24, 3), none, none, some (.getfield 88, 3), none, none, some (.invokevirtual 186, 3), none, none, some (.astore_n 1, 1), some (.aload_n 1, 1), some (.ifnull 24, 3), none, none, some (.aload_n 1, 1), some (.aload_n 0, 1), some (.getfield 24, 3), none, none, some (.getfield 193, 3), none, none, some (.putfield 85, 3), none, none, some (.aload_n 1, 1), some (.dup, 1), some (.getfield 226, 3), none, none, some (.iconst 1, 1), some (.iadd, 1), some (.putfield 226, 3), none, none, some (.aload_n 0, 1), some (.dup, 1), some (.getfield 59, 3), none, none, some (.iconst 1, 1), some (.iadd, 1), some (.putfield 59, 3), none, none, some (.aload_n 0, 1), some (.getfield 24, 3), none, none, some (.invokevirtual 62, 3), none, none, some (.return_, 1)]
def g_m_X0_endMove : ri_Mt := (RX0, yX0_endMove, cX0_endMove, 2, none, g_co_X0_endMove, 0)
def g_co_X0_turnMove : List (Option (Instr × Nat)) := [some (.aload_n 0, 1), some (.aload_n 0, 1), some (.getfield 24, 3), none, none, some (.getfield 88, 3), none, none, some (.invokevirtual 186, 3), none, none, some (.astore_n 1, 1), some (.aload_n 0, 1), some (.getfield 24, 3), none, none, some (.getfield 245, 3), none, none, some (.ifCond .eq 7, 3), none, none, some (.aload_n 1, 1), some (.ifnonnull 11, 3), none, none, some (.aload_n 0, 1), some (.getfield 24, 3), none, none, some (.invokevirtual 62, 3), none, none, some (.return_, 1), some (.aload_n 0, 1), some (.getfield 24, 3), none, none, some (.getfield 199, 3), none, none, some (.istore_n 2, 1), some (.aload_n 0, 1), some (.getfield 24, 3), none, none, some (.aload_n 0, 1), some (.getfield 24, 3), none, none, some (.getfield 193, 3), none, none, some (.putfield 199, 3), none, none, some (.aload_n 0, 1), some (.getfield 24, 3), none, none, some (.iload_n 2, 1), some (.putfield 193, 3), none, none, some (.aload_n 0, 1), some (.getfield 24, 3), none, none, some (.aload_n 0, 1), some (.getfield 24, 3), none, none, some (.getfield 242, 3), none, none, some (.aload_n 0, 1), some (.getfield 24, 3), none, none, some (.getfield 245, 3), none, none, some (.isub, 1), some (.putfield 245, 3), none, none, some (.aload_n 1, 1), some (.aload_n 0, 1), some (.getfield 24, 3), none, none, some (.getfield 199, 3), none, none, some (.putfield 85, 3), none, none, some (.return_, 1)]
def g_m_X0_turnMove : ri_Mt := (RX0, yX0_turnMove, cX0_turnMove, 3, none, g_co_X0_turnMove, 0)
def g_co_X0_leastStart : List (Option (Instr × Nat)) := [some (.aload_n 0, 1), some (.getfield 38, 3), none, none, some (.istore_n 2, 1), some (.iload_n 2, 1), some (.aload_n 1, 1), some (.getfield 85, 3), none, none, some (.if_icmp .ge 24, 3), none, none, some (.aload_n 0, 1), some (.aload_n 1, 1), some (.iload_n 2, 1), some (.aload_n 0, 1), some (.getfield 47, 3), none, none, some (.invokevirtual 233, 3), none, none, some (.ifCond .ne 5, 3), none, none, some (.iload_n 2, 1), some (.ireturn, 1), some (.iinc 2 1, 3), none, none, some (.goto (-26), 3), none, none, some (.iconst (-1), 1), some (.ireturn, 1)]
def g_m_X0_leastStart : ri_Mt := (RX0, yX0_leastStart, cX0_leastStart, 3, (some .int), g_co_X0_leastStart, 0)
def g_co_X0_greatestStart : List (Option (Instr × Nat)) := [some (.aload_n 0, 1), some (.invokevirtual 102, 3), none, none, some (.aload_n 1, 1), some (.getfield 65, 3), none, none, some (.isub, 1), some (.istore_n 2, 1), some (.iload_n 2, 1), some (.aload_n 1, 1), some (.getfield 85, 3), none, none, some (.if_icmp .le 24, 3), none, none, some (.aload_n 0, 1), some (.aload_n 1, 1), some (.iload_n 2, 1), some (.aload_n 0, 1), some (.getfield 47, 3), none, none, some (.invokevirtual 233, 3), none, none, some (.ifCond .ne 5, 3), none, none, some (.iload_n 2, 1), some (.ireturn, 1), some (.iinc 2 (-1), 3), none, none, some (.goto (-26), 3), none, none, some (.iconst (-1), 1), some (.ireturn, 1)]
def g_m_X0_greatestStart : ri_Mt := (RX0, yX0_greatestStart, cX0_greatestStart, 3, (some .int), g_co_X0_greatestStart, 0)
def g_co_X0_packLeft : List (Option (Instr × Nat)) := [some (.iconst 0, 1), some (.istore_n 1, 1), some (.aload_n 0, 1), some (.iconst (-1), 1), some (.invokevirtual 125, 3), none, none, some (.astore_n 2, 1), some (.aload_n 2, 1), some (.ifnull 37, 3), none, none, some (.iload_n 1, 1), some (.aload_n 0, 1), some (.getfield 28, 3), none, none, some (.arraylength, 1), some (.if_icmp .ge 28, 3), none, none, some (.aload_n 0, 1), some (.getfield 28, 3), none, none, some (.iload_n 1, 1), some (.aload_n 2, 1), some (.getfield 91, 3), none, none, some (.iastore, 1), some (.iinc 1 1, 3), none, none, some (.aload_n 0, 1), some (.aload_n 2, 1), some (.getfield 85, 3), none, none, some (.invokevirtual 125, 3), none, none, some (.astore_n 2, 1), some (.goto (-35), 3), none, none, some (.iconst 0, 1), some (.istore_n 2, 1), some (.iconst 0, 1), some (.istore_n 3, 1), some (.iload_n 3, 1), some (.iload_n 1, 1), some (.if_icmp .ge 72, 3), none, none, some (.iload_n 3, 1), some (.aload_n 0, 1), some (.getfield 28, 3), none, none, some (.arraylength, 1), some (.if_icmp .ge 63, 3), none, none, some (.aload_n 0, 1), some (.aload_n 0, 1), some (.getfield 28, 3), none, none, some (.iload_n 3, 1), some (.iaload, 1), some (.invokevirtual 186, 3), none, none, some (.astore 4, 2), none, some (.aload 4, 2), none, some (.ifnonnull 7, 3), none, none, some (.iconst (-1), 1), some (.goto 9, 3), none, none, some (.aload_n 0, 1), some (.aload 4, 2), none, some (.invokevirtual 270, 3), none, none, some (.istore 5, 2), none, some (.iload 5, 2), none, some (.iconst (-1), 1), some (.if_icmp .eq 22, 3), none, none, some (.aload_n 0, 1), some (.aload 4, 2), none, some (.iload 5, 2), none, some (.invokevirtual 274, 3), none, none, some (.aload_n 0, 1), some (.sipush 999, 3), none, none, some (.invokevirtual 277, 3), none, none, some (.pop, 1), some (.iinc 2 1, 3), none, none, some (.iinc 3 1, 3), none, none, some (.goto (-71), 3), none, none, some (.iload_n 2, 1), some (.ireturn, 1)]
def g_m_X0_packLeft : ri_Mt := (RX0, yX0_packLeft, cX0_packLeft, 6, (some .int), g_co_X0_packLeft, 0)
def g_co_X0_bringsRoom : List (Option (Instr × Nat)) := [some (.aload_n 0, 1), some (.getfield 38, 3), none, none, some (.istore 4, 2), none, some (.aload_n 0, 1), some (.getfield 17, 3), none, none, some (.astore 5, 2), none, some (.aload 5, 2), none, some (.arraylength, 1), some (.istore 6, 2), none, some (.iconst 0, 1), some (.istore 7, 2), none, some (.iload 7, 2), none, some (.iload 6, 2), none, some (.if_icmp .ge 48, 3), none, none, some (.aload 5, 2), none, some (.iload 7, 2), none, some (.aaload, 1), some (.astore 8, 2), none, some (.aload 8, 2), none, some (.invokevirtual 81, 3), none, none, some (.ifCond .eq 27, 3), none, none, some (.aload 8, 2), none, some (.getfield 85, 3), none, none, some (.aload_n 1, 1), some (.getfield 85, 3), none, none, some (.if_icmp .ge 15, 3), none, none, some (.iload 4, 2), none, some (.aload 8, 2), none, some (.invokevirtual 114, 3), none, none, some (.invokestatic 280, 3), none, none, some (.istore 4, 2), none, some (.iinc 7 1, 3), none, none, some (.goto (-49), 3), none, none, some (.aload_n 0, 1), some (.aload_n 1, 1), some (.getfield 85, 3), none, none, some (.invokevirtual 125, 3), none, none, some (.astore 5, 2), none, some (.aload 5, 2), none, some (.ifnonnull 10, 3), none, none, some (.aload_n 0, 1), some (.invokevirtual 102, 3), none, none, some (.goto 8, 3), none, none, some (.aload 5, 2), none, some (.getfield 85, 3), none, none, some (.istore 6, 2), none, some (.iload 4, 2), none, some (.i2l, 1), some (.iload 6, 2), none, some (.iload 4, 2), none, some (.isub, 1), some (.i2l, 1), some (.iload_n 2, 1), some (.i2l, 1), some (.aload_n 1, 1), some (.getfield 65, 3), none, none, some (.i2l, 1), some (.invokestatic 172, 3), none, none, some (.ifCond .ne 24, 3), none, none, some (.iload 4, 2), none, some (.iload 6, 2), none, some (.aload_n 0, 1), some (.getfield 44, 3), none, none, some (.invokestatic 283, 3), none, none, some (.iload_n 3, 1), some (.if_icmp .lt 7, 3), none, none, some (.iconst 1, 1), some (.goto 4, 3), none, none, some (.iconst 0, 1), some (.ireturn, 1), some (.iload 4, 2), none, some (.iload_n 2, 1), some (.aload_n 0, 1), some (.getfield 44, 3), none, none, some (.invokestatic 283, 3), none, none, some (.iload_n 3, 1), some (.if_icmp .ge 22, 3), none, none, some (.iload_n 2, 1), some (.aload_n 1, 1), some (.getfield 65, 3), none, none, some (.iadd, 1), some (.iload 6, 2), none, some (.aload_n 0, 1), some (.getfield 44, 3), none, none, some (.invokestatic 283, 3), none, none, some (.iload_n 3, 1), some (.if_icmp .lt 7, 3), none, none, some (.iconst 1, 1), some (.goto 4, 3), none, none, some (.iconst 0, 1), some (.ireturn, 1)]
def g_m_X0_bringsRoom : ri_Mt := (RX0, yX0_bringsRoom, cX0_bringsRoom, 9, (some .boolean), g_co_X0_bringsRoom, 0)
def g_co_X1_init : List (Option (Instr × Nat)) := [some (.aload_n 0, 1), some (.invokespecial 3, 3), none, none, some (.aload_n 0, 1), some (.bipush 11, 2), none, some (.newarray .int, 2), none, some (.putfield 11, 3), none, none, some (.aload_n 0, 1), some (.bipush 11, 2), none, some (.newarray .int, 2), none, some (.putfield 15, 3), none, none, some (.return_, 1)]
def g_m_X1_init : ri_Mt := (RX1, yX1_init, cX1_init, 1, none, g_co_X1_init, 1)
def g_co_X1_find : List (Option (Instr × Nat)) := [some (.aload_n 0, 1), some (.iconst 0, 1), some (.putfield 18, 3), none, none, some (.aload_n 0, 1), some (.aload_n 1, 1), some (.getfield 22, 3), none, none, some (.putfield 27, 3), none, none, some (.aload_n 1, 1), some (.getfield 28, 3), none, none, some (.istore_n 2, 1), some (.aload_n 1, 1), some (.invokevirtual 31, 3), none, none, some (.istore_n 3, 1), some (.iconst 0, 1), some (.istore 4, 2), none, some (.iload 4, 2), none, some (.sipush 600, 3), none, none, some (.if_icmp .ge 46, 3), none, none, some (.iload_n 2, 1), some (.iload_n 3, 1), some (.if_icmp .ge 41, 3), none, none, some (.aload_n 1, 1), some (.iload_n 2, 1), some (.invokevirtual 35, 3), none, none, some (.istore 5, 2), none, some (.iload 5, 2), none, some (.iload_n 2, 1), some (.if_icmp .ne 19, 3), none, none, some (.aload_n 1, 1), some (.iload_n 2, 1), some (.invokevirtual 39, 3), none, none, some (.istore 5, 2), none, some (.aload_n 0, 1), some (.iload_n 2, 1), some (.iload 5, 2), none, some (.iload_n 2, 1), some (.isub, 1), some (.invokevirtual 42, 3), none, none, some (.iload 5, 2), none, some (.istore_n 2, 1), some (.iinc 4 1, 3), none, none, some (.goto (-48), 3), none, none, some (.return_, 1)]
def g_m_X1_find : ri_Mt := (RX1, yX1_find, cX1_find, 6, none, g_co_X1_find, 1)
def g_co_X1_note : List (Option (Instr × Nat)) := [some (.aload_n 0, 1), some (.getfield 18, 3), none, none, some (.aload_n 0, 1), some (.getfield 11, 3), none, none, some (.arraylength, 1), some (.if_icmp .ge 45, 3), none, none, some (.aload_n 0, 1), some (.getfield 18, 3), none, none, some (.aload_n 0, 1), some (.getfield 15, 3), none, none, some (.arraylength, 1), some (.if_icmp .ge 33, 3), none, none, some (.aload_n 0, 1), some (.getfield 11, 3), none, none, some (.aload_n 0, 1), some (.getfield 18, 3), none, none, some (.iload_n 1, 1), some (.iastore, 1), some (.aload_n 0, 1), some (.getfield 15, 3), none, none, some (.aload_n 0, 1), some (.getfield 18, 3), none, none, some (.iload_n 2, 1), some (.iastore, 1), some (.aload_n 0, 1), some (.dup, 1), some (.getfield 18, 3), none, none, some (.iconst 1, 1), some (.iadd, 1), some (.putfield 18, 3), none, none, some (.return_, 1)]
def g_m_X1_note : ri_Mt := (RX1, yX1_note, cX1_note, 3, none, g_co_X1_note, 1)
def g_co_X1_start : List (Option (Instr × Nat)) := [some (.iload_n 1, 1), some (.ifCond .lt 12, 3), none, none, some (.iload_n 1, 1), some (.aload_n 0, 1), some (.getfield 11, 3), none, none, some (.arraylength, 1), some (.if_icmp .lt 7, 3), none, none, some (.iconst 0, 1), some (.goto 9, 3), none, none, some (.aload_n 0, 1), some (.getfield 11, 3), none, none, some (.iload_n 1, 1), some (.iaload, 1), some (.ireturn, 1)]
def g_m_X1_start : ri_Mt := (RX1, yX1_start, cX1_start, 2, (some .int), g_co_X1_start, 1)
def g_co_X1_size : List (Option (Instr × Nat)) := [some (.iload_n 1, 1), some (.ifCond .lt 12, 3), none, none, some (.iload_n 1, 1), some (.aload_n 0, 1), some (.getfield 15, 3), none, none, some (.arraylength, 1), some (.if_icmp .lt 7, 3), none, none, some (.iconst 0, 1), some (.goto 9, 3), none, none, some (.aload_n 0, 1), some (.getfield 15, 3), none, none, some (.iload_n 1, 1), some (.iaload, 1), some (.ireturn, 1)]
def g_m_X1_size : ri_Mt := (RX1, yX1_size, cX1_size, 2, (some .int), g_co_X1_size, 1)
def g_co_X1_roomStart : List (Option (Instr × Nat)) := [some (.aload_n 0, 1), some (.iload_n 1, 1), some (.invokevirtual 46, 3), none, none, some (.aload_n 0, 1), some (.getfield 27, 3), none, none, some (.invokestatic 49, 3), none, none, some (.ireturn, 1)]
def g_m_X1_roomStart : ri_Mt := (RX1, yX1_roomStart, cX1_roomStart, 2, (some .int), g_co_X1_roomStart, 1)
def g_co_X1_room : List (Option (Instr × Nat)) := [some (.aload_n 0, 1), some (.iload_n 1, 1), some (.invokevirtual 46, 3), none, none, some (.aload_n 0, 1), some (.iload_n 1, 1), some (.invokevirtual 46, 3), none, none, some (.aload_n 0, 1), some (.iload_n 1, 1), some (.invokevirtual 53, 3), none, none, some (.iadd, 1), some (.aload_n 0, 1), some (.getfield 27, 3), none, none, some (.invokestatic 56, 3), none, none, some (.ireturn, 1)]
def g_m_X1_room : ri_Mt := (RX1, yX1_room, cX1_room, 2, (some .int), g_co_X1_room, 1)
def g_co_X1_sectors : List (Option (Instr × Nat)) := [some (.iconst 0, 1), some (.istore_n 1, 1), some (.iconst 0, 1), some (.istore_n 2, 1), some (.iload_n 2, 1), some (.aload_n 0, 1), some (.getfield 18, 3), none, none, some (.if_icmp .ge 17, 3), none, none, some (.iload_n 1, 1), some (.aload_n 0, 1), some (.iload_n 2, 1), some (.invokevirtual 53, 3), none, none, some (.iadd, 1), some (.istore_n 1, 1), some (.iinc 2 1, 3), none, none, some (.goto (-19), 3), none, none, some (.iload_n 1, 1), some (.ireturn, 1)]
def g_m_X1_sectors : ri_Mt := (RX1, yX1_sectors, cX1_sectors, 3, (some .int), g_co_X1_sectors, 1)
def g_co_X1_sectorsOfRooms : List (Option (Instr × Nat)) := [some (.iconst 0, 1), some (.istore_n 1, 1), some (.iconst 0, 1), some (.istore_n 2, 1), some (.iload_n 2, 1), some (.aload_n 0, 1), some (.getfield 18, 3), none, none, some (.if_icmp .ge 17, 3), none, none, some (.iload_n 1, 1), some (.aload_n 0, 1), some (.iload_n 2, 1), some (.invokevirtual 60, 3), none, none, some (.iadd, 1), some (.istore_n 1, 1), some (.iinc 2 1, 3), none, none, some (.goto (-19), 3), none, none, some (.iload_n 1, 1), some (.ireturn, 1)]
def g_m_X1_sectorsOfRooms : ri_Mt := (RX1, yX1_sectorsOfRooms, cX1_sectorsOfRooms, 3, (some .int), g_co_X1_sectorsOfRooms, 1)
def g_co_X1_largest : List (Option (Instr × Nat)) := [some (.iconst 0, 1), some (.istore_n 1, 1), some (.iconst 0, 1), some (.istore_n 2, 1), some (.iload_n 2, 1), some (.aload_n 0, 1), some (.getfield 18, 3), none, none, some (.if_icmp .ge 19, 3), none, none, some (.iload_n 1, 1), some (.aload_n 0, 1), some (.iload_n 2, 1), some (.invokevirtual 53, 3), none, none, some (.invokestatic 63, 3), none, none, some (.istore_n 1, 1), some (.iinc 2 1, 3), none, none, some (.goto (-21), 3), none, none, some (.iload_n 1, 1), some (.ireturn, 1)]
def g_m_X1_largest : ri_Mt := (RX1, yX1_largest, cX1_largest, 3, (some .int), g_co_X1_largest, 1)
def g_co_X1_mostRoom : List (Option (Instr × Nat)) := [some (.iconst 0, 1), some (.istore_n 1, 1), some (.iconst 0, 1), some (.istore_n 2, 1), some (.iload_n 2, 1), some (.aload_n 0, 1), some (.getfield 18, 3), none, none, some (.if_icmp .ge 19, 3), none, none, some (.iload_n 1, 1), some (.aload_n 0, 1), some (.iload_n 2, 1), some (.invokevirtual 60, 3), none, none, some (.invokestatic 63, 3), none, none, some (.istore_n 1, 1), some (.iinc 2 1, 3), none, none, some (.goto (-21), 3), none, none, some (.iload_n 1, 1), some (.ireturn, 1)]
def g_m_X1_mostRoom : ri_Mt := (RX1, yX1_mostRoom, cX1_mostRoom, 3, (some .int), g_co_X1_mostRoom, 1)
def g_co_X1_holding : List (Option (Instr × Nat)) := [some (.iconst 0, 1), some (.istore_n 2, 1), some (.iload_n 2, 1), some (.aload_n 0, 1), some (.getfield 18, 3), none, none, some (.if_icmp .ge 32, 3), none, none, some (.aload_n 0, 1), some (.iload_n 2, 1), some (.invokevirtual 46, 3), none, none, some (.i2l, 1), some (.aload_n 0, 1), some (.iload_n 2, 1), some (.invokevirtual 53, 3), none, none, some (.i2l, 1), some (.iload_n 1, 1), some (.i2l, 1), some (.lconst 1, 1), some (.invokestatic 68, 3), none, none, some (.ifCond .eq 5, 3), none, none, some (.iload_n 2, 1), some (.ireturn, 1), some (.iinc 2 1, 3), none, none, some (.goto (-34), 3), none, none, some (.iconst (-1), 1), some (.ireturn, 1)]
def g_m_X1_holding : ri_Mt := (RX1, yX1_holding, cX1_holding, 3, (some .int), g_co_X1_holding, 1)
def g_co_X1_startFor : List (Option (Instr × Nat)) := [some (.iconst (-1), 1), some (.istore_n 3, 1), some (.iconst 0, 1), some (.istore 4, 2), none, some (.iload_n 1, 1), some (.ifCond .le 47, 3), none, none, some (.iload 4, 2), none, some (.aload_n 0, 1), some (.getfield 18, 3), none, none, some (.if_icmp .ge 38, 3), none, none, some (.aload_n 0, 1), some (.iload 4, 2), none, some (.invokevirtual 60, 3), none, none, some (.iload_n 1, 1), some (.if_icmp .lt 22, 3), none, none, some (.iload_n 3, 1), some (.iconst (-1), 1), some (.if_icmp .eq 14, 3), none, none, some (.aload_n 0, 1), some (.iload 4, 2), none, some (.iload_n 3, 1), some (.iload_n 2, 1), some (.invokevirtual 72, 3), none, none, some (.ifCond .eq 6, 3), none, none, some (.iload 4, 2), none, some (.istore_n 3, 1), some (.iinc 4 1, 3), none, none, some (.goto (-45), 3), none, none, some (.iload_n 3, 1), some (.iconst (-1), 1), some (.if_icmp .ne 7, 3), none, none, some (.iconst (-1), 1), some (.goto 8, 3), none, none, some (.aload_n 0, 1), some (.iload_n 3, 1), some (.invokevirtual 76, 3), none, none, some (.ireturn, 1)]
def g_m_X1_startFor : ri_Mt := (RX1, yX1_startFor, cX1_startFor, 5, (some .int), g_co_X1_startFor, 1)
def g_co_X1_isBetter : List (Option (Instr × Nat)) := [some (.iload_n 3, 1), some (.iconst 1, 1), some (.if_icmp .ne 16, 3), none, none, some (.aload_n 0, 1), some (.iload_n 1, 1), some (.invokevirtual 60, 3), none, none, some (.aload_n 0, 1), some (.iload_n 2, 1), some (.invokevirtual 60, 3), none, none, some (.if_icmp .lt 21, 3), none, none, some (.iload_n 3, 1), some (.iconst 2, 1), some (.if_icmp .ne 20, 3), none, none, some (.aload_n 0, 1), some (.iload_n 1, 1), some (.invokevirtual 60, 3), none, none, some (.aload_n 0, 1), some (.iload_n 2, 1), some (.invokevirtual 60, 3), none, none, some (.if_icmp .le 7, 3), none, none, some (.iconst 1, 1), some (.goto 4, 3), none, none, some (.iconst 0, 1), some (.ireturn, 1)]
def g_m_X1_isBetter : ri_Mt := (RX1, yX1_isBetter, cX1_isBetter, 4, (some .boolean), g_co_X1_isBetter, 1)
def g_co_X2_init : List (Option (Instr × Nat)) := [some (.aload_n 0, 1), some (.invokespecial 3, 3), none, none, some (.aload_n 0, 1), some (.bipush 10, 2), none, some (.anewarray 9, 3), none, none, some (.putfield 11, 3), none, none, some (.iconst 0, 1), some (.istore_n 1, 1), some (.iload_n 1, 1), some (.bipush 10, 2), none, some (.if_icmp .ge 22, 3), none, none, some (.aload_n 0, 1), some (.getfield 11, 3), none, none, some (.iload_n 1, 1), some (.new 9, 3), none, none, some (.dup, 1), some (.invokespecial 17, 3), none, none, some (.aastore, 1), some (.iinc 1 1, 3), none, none, some (.goto (-22), 3), none, none, some (.return_, 1)]
def g_m_X2_init : ri_Mt := (RX2, yX2_init, cX2_init, 2, none, g_co_X2_init, 2)
def g_co_X2_note : List (Option (Instr × Nat)) := [some (.aload_n 0, 1), some (.aload_n 0, 1), some (.getfield 18, 3), none, none, some (.iconst 1, 1), some (.iadd, 1), some (.aload_n 0, 1), some (.getfield 11, 3), none, none, some (.arraylength, 1), some (.if_icmp .ge 12, 3), none, none, some (.aload_n 0, 1), some (.getfield 18, 3), none, none, some (.iconst 1, 1), some (.iadd, 1), some (.goto 4, 3), none, none, some (.iconst 0, 1), some (.putfield 18, 3), none, none, some (.aload_n 0, 1), some (.getfield 11, 3), none, none, some (.aload_n 0, 1), some (.getfield 18, 3), none, none, some (.aaload, 1), some (.aload_n 1, 1), some (.invokevirtual 22, 3), none, none, some (.aload_n 0, 1), some (.aload_n 0, 1), some (.getfield 26, 3), none, none, some (.iconst 1, 1), some (.iadd, 1), some (.bipush 10, 2), none, some (.invokestatic 29, 3), none, none, some (.putfield 26, 3), none, none, some (.return_, 1)]
def g_m_X2_note : ri_Mt := (RX2, yX2_note, cX2_note, 2, none, g_co_X2_note, 2)
def g_co_X2_takeBack : List (Option (Instr × Nat)) := [some (.aload_n 0, 1), some (.getfield 26, 3), none, none, some (.iconst 1, 1), some (.if_icmp .lt 22, 3), none, none, some (.aload_n 0, 1), some (.getfield 18, 3), none, none, some (.ifCond .lt 15, 3), none, none, some (.aload_n 0, 1), some (.getfield 18, 3), none, none, some (.aload_n 0, 1), some (.getfield 11, 3), none, none, some (.arraylength, 1), some (.if_icmp .lt 5, 3), none, none, some (.iconst 0, 1), some (.ireturn, 1), some (.aload_n 1, 1), some (.aload_n 0, 1), some (.getfield 11, 3), none, none, some (.aload_n 0, 1), some (.getfield 18, 3), none, none, some (.aaload, 1), some (.invokevirtual 22, 3), none, none, some (.aload_n 0, 1), some (.aload_n 0, 1), some (.getfield 18, 3), none, none, some (.ifCond .le 12, 3), none, none, some (.aload_n 0, 1), some (.getfield 18, 3), none, none, some (.iconst 1, 1), some (.isub, 1), some (.goto 10, 3), none, none, some (.aload_n 0, 1), some (.getfield 11, 3), none, none, some (.arraylength, 1), some (.iconst 1, 1), some (.isub, 1), some (.putfield 18, 3), none, none, some (.aload_n 0, 1), some (.dup, 1), some (.getfield 26, 3), none, none, some (.iconst 1, 1), some (.isub, 1), some (.putfield 26, 3), none, none, some (.iconst 1, 1), some (.ireturn, 1)]
def g_m_X2_takeBack : ri_Mt := (RX2, yX2_takeBack, cX2_takeBack, 2, (some .boolean), g_co_X2_takeBack, 2)
def g_co_X2_forget : List (Option (Instr × Nat)) := [some (.aload_n 0, 1), some (.iconst 0, 1), some (.putfield 26, 3), none, none, some (.return_, 1)]
def g_m_X2_forget : ri_Mt := (RX2, yX2_forget, cX2_forget, 1, none, g_co_X2_forget, 2)
def g_co_X3_init : List (Option (Instr × Nat)) := [some (.aload_n 0, 1), some (.invokespecial 3, 3), none, none, some (.aload_n 0, 1), some (.iconst (-1), 1), some (.putfield 9, 3), none, none, some (.aload_n 0, 1), some (.iconst (-1), 1), some (.putfield 15, 3), none, none, some (.return_, 1)]
def g_m_X3_init : ri_Mt := (RX3, yX3_init, cX3_init, 1, none, g_co_X3_init, 3)
def g_co_X3_copyFrom : List (Option (Instr × Nat)) := [some (.aload_n 0, 1), some (.aload_n 1, 1), some (.getfield 9, 3), none, none, some (.putfield 9, 3), none, none, some (.aload_n 0, 1), some (.aload_n 1, 1), some (.getfield 18, 3), none, none, some (.putfield 18, 3), none, none, some (.aload_n 0, 1), some (.aload_n 1, 1), some (.getfield 21, 3), none, none, some (.putfield 21, 3), none, none, some (.aload_n 0, 1), some (.aload_n 1, 1), some (.getfield 24, 3), none, none, some (.putfield 24, 3), none, none, some (.aload_n 0, 1), some (.aload_n 1, 1), some (.getfield 27, 3), none, none, some (.putfield 27, 3), none, none, some (.aload_n 0, 1), some (.aload_n 1, 1), some (.getfield 30, 3), none, none, some (.putfield 30, 3), none, none, some (.aload_n 0, 1), some (.aload_n 1, 1), some (.getfield 15, 3), none, none, some (.putfield 15, 3), none, none, some (.aload_n 0, 1), some (.aload_n 1, 1), some (.getfield 33, 3), none, none, some (.putfield 33, 3), none, none, some (.aload_n 0, 1), some (.aload_n 1, 1), some (.getfield 36, 3), none, none, some (.putfield 36, 3), none, none, some (.return_, 1)]
def g_m_X3_copyFrom : ri_Mt := (RX3, yX3_copyFrom, cX3_copyFrom, 2, none, g_co_X3_copyFrom, 3)
def g_co_X3_isOn : List (Option (Instr × Nat)) := [some (.aload_n 0, 1), some (.getfield 9, 3), none, none, some (.iconst (-1), 1), some (.if_icmp .eq 7, 3), none, none, some (.iconst 1, 1), some (.goto 4, 3), none, none, some (.iconst 0, 1), some (.ireturn, 1)]
def g_m_X3_isOn : ri_Mt := (RX3, yX3_isOn, cX3_isOn, 1, (some .boolean), g_co_X3_isOn, 3)
def g_co_X3_stop : List (Option (Instr × Nat)) := [some (.aload_n 0, 1), some (.iconst (-1), 1), some (.putfield 9, 3), none, none, some (.return_, 1)]
def g_m_X3_stop : ri_Mt := (RX3, yX3_stop, cX3_stop, 1, none, g_co_X3_stop, 3)
def g_co_X3_lengthOf : List (Option (Instr × Nat)) := [some (.aload_n 0, 1), some (.getfield 18, 3), none, none, some (.iload_n 1, 1), some (.aload_n 0, 1), some (.getfield 27, 3), none, none, some (.imul, 1), some (.isub, 1), some (.istore_n 2, 1), some (.iload_n 2, 1), some (.aload_n 0, 1), some (.getfield 27, 3), none, none, some (.if_icmp .ge 7, 3), none, none, some (.iload_n 2, 1), some (.goto 7, 3), none, none, some (.aload_n 0, 1), some (.getfield 27, 3), none, none, some (.ireturn, 1)]
def g_m_X3_lengthOf : ri_Mt := (RX3, yX3_lengthOf, cX3_lengthOf, 3, (some .int), g_co_X3_lengthOf, 3)
def g_co_X3_isMovedChunk : List (Option (Instr × Nat)) := [some (.aload_n 0, 1), some (.getfield 24, 3), none, none, some (.aload_n 0, 1), some (.getfield 21, 3), none, none, some (.if_icmp .ge 19, 3), none, none, some (.iload_n 1, 1), some (.aload_n 0, 1), some (.getfield 33, 3), none, none, some (.if_icmp .ge 7, 3), none, none, some (.iconst 1, 1), some (.goto 25, 3), none, none, some (.iconst 0, 1), some (.goto 21, 3), none, none, some (.iload_n 1, 1), some (.aload_n 0, 1), some (.getfield 30, 3), none, none, some (.aload_n 0, 1), some (.getfield 33, 3), none, none, some (.isub, 1), some (.if_icmp .lt 7, 3), none, none, some (.iconst 1, 1), some (.goto 4, 3), none, none, some (.iconst 0, 1), some (.ireturn, 1)]
def g_m_X3_isMovedChunk : ri_Mt := (RX3, yX3_isMovedChunk, cX3_isMovedChunk, 2, (some .boolean), g_co_X3_isMovedChunk, 3)
def g_co_X3_nextChunk : List (Option (Instr × Nat)) := [some (.aload_n 0, 1), some (.getfield 24, 3), none, none, some (.aload_n 0, 1), some (.getfield 21, 3), none, none, some (.if_icmp .ge 10, 3), none, none, some (.aload_n 0, 1), some (.getfield 33, 3), none, none, some (.goto 14, 3), none, none, some (.aload_n 0, 1), some (.getfield 30, 3), none, none, some (.iconst 1, 1), some (.isub, 1), some (.aload_n 0, 1), some (.getfield 33, 3), none, none, some (.isub, 1), some (.ireturn, 1)]
def g_m_X3_nextChunk : ri_Mt := (RX3, yX3_nextChunk, cX3_nextChunk, 1, (some .int), g_co_X3_nextChunk, 3)
def g_co_X3_firstBlock : List (Option (Instr × Nat)) := [some (.aload_n 0, 1), some (.invokevirtual 40, 3), none, none, some (.aload_n 0, 1), some (.getfield 27, 3), none, none, some (.imul, 1), some (.ireturn, 1)]
def g_m_X3_firstBlock : ri_Mt := (RX3, yX3_firstBlock, cX3_firstBlock, 1, (some .int), g_co_X3_firstBlock, 3)
def g_co_X3_stepLength : List (Option (Instr × Nat)) := [some (.aload_n 0, 1), some (.aload_n 0, 1), some (.invokevirtual 40, 3), none, none, some (.invokevirtual 44, 3), none, none, some (.ireturn, 1)]
def g_m_X3_stepLength : ri_Mt := (RX3, yX3_stepLength, cX3_stepLength, 1, (some .int), g_co_X3_stepLength, 3)
def g_co_X3_stepKind : List (Option (Instr × Nat)) := [some (.aload_n 0, 1), some (.getfield 36, 3), none, none, some (.ifCond .eq 5, 3), none, none, some (.iconst 2, 1), some (.ireturn, 1), some (.aload_n 0, 1), some (.invokevirtual 48, 3), none, none, some (.aload_n 0, 1), some (.getfield 21, 3), none, none, some (.aload_n 0, 1), some (.getfield 24, 3), none, none, some (.invokestatic 51, 3), none, none, some (.if_icmp .le 7, 3), none, none, some (.iconst 1, 1), some (.goto 4, 3), none, none, some (.iconst 0, 1), some (.ireturn, 1)]
def g_m_X3_stepKind : ri_Mt := (RX3, yX3_stepKind, cX3_stepKind, 1, (some .int), g_co_X3_stepKind, 3)
def g_co_X3_stepSource : List (Option (Instr × Nat)) := [some (.aload_n 0, 1), some (.getfield 36, 3), none, none, some (.ifCond .eq 17, 3), none, none, some (.aload_n 0, 1), some (.getfield 15, 3), none, none, some (.iload_n 1, 1), some (.iadd, 1), some (.aload_n 0, 1), some (.invokevirtual 55, 3), none, none, some (.isub, 1), some (.goto 9, 3), none, none, some (.aload_n 0, 1), some (.getfield 21, 3), none, none, some (.iload_n 1, 1), some (.iadd, 1), some (.ireturn, 1)]
def g_m_X3_stepSource : ri_Mt := (RX3, yX3_stepSource, cX3_stepSource, 2, (some .int), g_co_X3_stepSource, 3)
def g_co_X3_stepTarget : List (Option (Instr × Nat)) := [some (.aload_n 0, 1), some (.invokevirtual 58, 3), none, none, some (.iconst 1, 1), some (.if_icmp .ne 17, 3), none, none, some (.aload_n 0, 1), some (.getfield 15, 3), none, none, some (.iload_n 1, 1), some (.iadd, 1), some (.aload_n 0, 1), some (.invokevirtual 55, 3), none, none, some (.isub, 1), some (.goto 9, 3), none, none, some (.aload_n 0, 1), some (.getfield 24, 3), none, none, some (.iload_n 1, 1), some (.iadd, 1), some (.ireturn, 1)]
def g_m_X3_stepTarget : ri_Mt := (RX3, yX3_stepTarget, cX3_stepTarget, 2, (some .int), g_co_X3_stepTarget, 3)
def g_co_X3_placeOfBlock : List (Option (Instr × Nat)) := [some (.aload_n 0, 1), some (.getfield 27, 3), none, none, some (.iconst 1, 1), some (.if_icmp .ge 7, 3), none, none, some (.iconst 0, 1), some (.goto 9, 3), none, none, some (.iload_n 1, 1), some (.aload_n 0, 1), some (.getfield 27, 3), none, none, some (.idiv, 1), some (.istore_n 2, 1), some (.aload_n 0, 1), some (.iload_n 2, 1), some (.invokevirtual 61, 3), none, none, some (.ifCond .eq 10, 3), none, none, some (.aload_n 0, 1), some (.getfield 24, 3), none, none, some (.iload_n 1, 1), some (.iadd, 1), some (.ireturn, 1), some (.aload_n 0, 1), some (.getfield 36, 3), none, none, some (.ifCond .eq 15, 3), none, none, some (.iload_n 2, 1), some (.aload_n 0, 1), some (.invokevirtual 40, 3), none, none, some (.if_icmp .ne 7, 3), none, none, some (.iconst 1, 1), some (.goto 4, 3), none, none, some (.iconst 0, 1), some (.istore_n 3, 1), some (.iload_n 3, 1), some (.ifCond .eq 19, 3), none, none, some (.aload_n 0, 1), some (.getfield 15, 3), none, none, some (.iload_n 1, 1), some (.iadd, 1), some (.iload_n 2, 1), some (.aload_n 0, 1), some (.getfield 27, 3), none, none, some (.imul, 1), some (.isub, 1), some (.goto 9, 3), none, none, some (.aload_n 0, 1), some (.getfield 21, 3), none, none, some (.iload_n 1, 1), some (.iadd, 1), some (.ireturn, 1)]
def g_m_X3_placeOfBlock : ri_Mt := (RX3, yX3_placeOfBlock, cX3_placeOfBlock, 4, (some .int), g_co_X3_placeOfBlock, 3)
def g_co_X3_blocksMoved : List (Option (Instr × Nat)) := [some (.iconst 0, 1), some (.istore_n 1, 1), some (.iconst 0, 1), some (.istore_n 2, 1), some (.iload_n 2, 1), some (.aload_n 0, 1), some (.getfield 30, 3), none, none, some (.if_icmp .ge 25, 3), none, none, some (.aload_n 0, 1), some (.iload_n 2, 1), some (.invokevirtual 61, 3), none, none, some (.ifCond .eq 11, 3), none, none, some (.iload_n 1, 1), some (.aload_n 0, 1), some (.iload_n 2, 1), some (.invokevirtual 44, 3), none, none, some (.iadd, 1), some (.istore_n 1, 1), some (.iinc 2 1, 3), none, none, some (.goto (-27), 3), none, none, some (.iload_n 1, 1), some (.ireturn, 1)]
def g_m_X3_blocksMoved : ri_Mt := (RX3, yX3_blocksMoved, cX3_blocksMoved, 3, (some .int), g_co_X3_blocksMoved, 3)
def g_co_X3_stepsLeft : List (Option (Instr × Nat)) := [some (.aload_n 0, 1), some (.invokevirtual 65, 3), none, none, some (.ifCond .ne 5, 3), none, none, some (.iconst 0, 1), some (.ireturn, 1), some (.aload_n 0, 1), some (.getfield 36, 3), none, none, some (.ifCond .eq 7, 3), none, none, some (.iconst (-1), 1), some (.goto 4, 3), none, none, some (.iconst 0, 1), some (.istore_n 1, 1), some (.iconst 0, 1), some (.istore_n 2, 1), some (.iload_n 2, 1), some (.aload_n 0, 1), some (.getfield 30, 3), none, none, some (.if_icmp .ge 39, 3), none, none, some (.aload_n 0, 1), some (.iload_n 2, 1), some (.invokevirtual 61, 3), none, none, some (.ifCond .ne 25, 3), none, none, some (.iload_n 1, 1), some (.aload_n 0, 1), some (.iload_n 2, 1), some (.invokevirtual 44, 3), none, none, some (.aload_n 0, 1), some (.getfield 21, 3), none, none, some (.aload_n 0, 1), some (.getfield 24, 3), none, none, some (.invokestatic 51, 3), none, none, some (.invokestatic 69, 3), none, none, some (.iadd, 1), some (.istore_n 1, 1), some (.iinc 2 1, 3), none, none, some (.goto (-41), 3), none, none, some (.iload_n 1, 1), some (.ireturn, 1)]
def g_m_X3_stepsLeft : ri_Mt := (RX3, yX3_stepsLeft, cX3_stepsLeft, 3, (some .int), g_co_X3_stepsLeft, 3)
def g_co_X3_scratchSize : List (Option (Instr × Nat)) := [some (.aload_n 0, 1), some (.getfield 15, 3), none, none, some (.iconst (-1), 1), some (.if_icmp .ne 7, 3), none, none, some (.iconst 0, 1), some (.goto 14, 3), none, none, some (.aload_n 0, 1), some (.getfield 27, 3), none, none, some (.aload_n 0, 1), some (.getfield 18, 3), none, none, some (.invokestatic 72, 3), none, none, some (.ireturn, 1)]
def g_m_X3_scratchSize : ri_Mt := (RX3, yX3_scratchSize, cX3_scratchSize, 1, (some .int), g_co_X3_scratchSize, 3)
def g_co_X3_keepsBusy : List (Option (Instr × Nat)) := [some (.aload_n 0, 1), some (.invokevirtual 65, 3), none, none, some (.ifCond .eq 51, 3), none, none, some (.aload_n 0, 1), some (.getfield 24, 3), none, none, some (.i2l, 1), some (.aload_n 0, 1), some (.getfield 18, 3), none, none, some (.i2l, 1), some (.lload_n 1, 1), some (.lload_n 3, 1), some (.invokestatic 77, 3), none, none, some (.ifCond .ne 29, 3), none, none, some (.aload_n 0, 1), some (.getfield 15, 3), none, none, some (.iconst (-1), 1), some (.if_icmp .eq 25, 3), none, none, some (.aload_n 0, 1), some (.getfield 15, 3), none, none, some (.i2l, 1), some (.aload_n 0, 1), some (.invokevirtual 81, 3), none, none, some (.i2l, 1), some (.lload_n 1, 1), some (.lload_n 3, 1), some (.invokestatic 77, 3), none, none, some (.ifCond .eq 7, 3), none, none, some (.iconst 1, 1), some (.goto 4, 3), none, none, some (.iconst 0, 1), some (.ireturn, 1)]
def g_m_X3_keepsBusy : ri_Mt := (RX3, yX3_keepsBusy, cX3_keepsBusy, 5, (some .boolean), g_co_X3_keepsBusy, 3)
def g_co_X3_endOfBusy : List (Option (Instr × Nat)) := [some (.aload_n 0, 1), some (.invokevirtual 65, 3), none, none, some (.ifCond .eq 32, 3), none, none, some (.aload_n 0, 1), some (.getfield 24, 3), none, none, some (.i2l, 1), some (.aload_n 0, 1), some (.getfield 18, 3), none, none, some (.i2l, 1), some (.iload_n 1, 1), some (.i2l, 1), some (.lconst 1, 1), some (.invokestatic 77, 3), none, none, some (.ifCond .eq 13, 3), none, none, some (.aload_n 0, 1), some (.getfield 24, 3), none, none, some (.aload_n 0, 1), some (.getfield 18, 3), none, none, some (.iadd, 1), some (.ireturn, 1), some (.aload_n 0, 1), some (.iload_n 1, 1), some (.i2l, 1), some (.lconst 1, 1), some (.invokevirtual 84, 3), none, none, some (.ifCond .eq 15, 3), none, none, some (.aload_n 0, 1), some (.getfield 15, 3), none, none, some (.aload_n 0, 1), some (.invokevirtual 81, 3), none, none, some (.iadd, 1), some (.goto 4, 3), none, none, some (.iload_n 1, 1), some (.ireturn, 1)]
def g_m_X3_endOfBusy : ri_Mt := (RX3, yX3_endOfBusy, cX3_endOfBusy, 2, (some .int), g_co_X3_endOfBusy, 3)
def g_co_X3_nextBusy : List (Option (Instr × Nat)) := [some (.iload_n 2, 1), some (.istore_n 3, 1), some (.aload_n 0, 1), some (.invokevirtual 65, 3), none, none, some (.ifCond .eq 24, 3), none, none, some (.aload_n 0, 1), some (.getfield 24, 3), none, none, some (.iload_n 1, 1), some (.if_icmp .le 16, 3), none, none, some (.aload_n 0, 1), some (.getfield 24, 3), none, none, some (.iload_n 3, 1), some (.if_icmp .ge 8, 3), none, none, some (.aload_n 0, 1), some (.getfield 24, 3), none, none, some (.istore_n 3, 1), some (.aload_n 0, 1), some (.invokevirtual 65, 3), none, none, some (.ifCond .eq 24, 3), none, none, some (.aload_n 0, 1), some (.getfield 15, 3), none, none, some (.iload_n 1, 1), some (.if_icmp .le 16, 3), none, none, some (.aload_n 0, 1), some (.getfield 15, 3), none, none, some (.iload_n 3, 1), some (.if_icmp .ge 8, 3), none, none, some (.aload_n 0, 1), some (.getfield 15, 3), none, none, some (.istore_n 3, 1), some (.iload_n 3, 1), some (.ireturn, 1)]
def g_m_X3_nextBusy : ri_Mt := (RX3, yX3_nextBusy, cX3_nextBusy, 4, (some .int), g_co_X3_nextBusy, 3)
def g_co_X4_init : List (Option (Instr × Nat)) := [some (.aload_n 0, 1), some (.invokespecial 1, 3), none, none, some (.aload_n 0, 1), some (.sipush 128, 3), none, none, some (.newarray .int, 2), none, some (.putfield 9, 3), none, none, some (.return_, 1)]
def g_m_X4_init : ri_Mt := (RX4, yX4_init, cX4_init, 1, none, g_co_X4_init, 4)
def g_co_X4_empty : List (Option (Instr × Nat)) := [some (.aload_n 0, 1), some (.iconst 0, 1), some (.putfield 13, 3), none, none, some (.return_, 1)]
def g_m_X4_empty : ri_Mt := (RX4, yX4_empty, cX4_empty, 1, none, g_co_X4_empty, 4)
def g_co_X4_putSign : List (Option (Instr × Nat)) := [some (.aload_n 0, 1), some (.getfield 13, 3), none, none, some (.ifCond .lt 35, 3), none, none, some (.aload_n 0, 1), some (.getfield 13, 3), none, none, some (.aload_n 0, 1), some (.getfield 9, 3), none, none, some (.arraylength, 1), some (.if_icmp .ge 23, 3), none, none, some (.aload_n 0, 1), some (.getfield 9, 3), none, none, some (.aload_n 0, 1), some (.getfield 13, 3), none, none, some (.iload_n 1, 1), some (.iastore, 1), some (.aload_n 0, 1), some (.dup, 1), some (.getfield 13, 3), none, none, some (.iconst 1, 1), some (.iadd, 1), some (.putfield 13, 3), none, none, some (.return_, 1)]
def g_m_X4_putSign : ri_Mt := (RX4, yX4_putSign, cX4_putSign, 2, none, g_co_X4_putSign, 4)
def g_co_X4_putNumber : List (Option (Instr × Nat)) := [some (.iload_n 1, 1), some (.bipush 100, 2), none, some (.if_icmp .lt 17, 3), none, none, some (.aload_n 0, 1), some (.bipush 48, 2), none, some (.iload_n 1, 1), some (.bipush 100, 2), none, some (.idiv, 1), some (.bipush 10, 2), none, some (.irem, 1), some (.iadd, 1), some (.invokevirtual 17, 3), none, none, some (.iload_n 1, 1), some (.bipush 10, 2), none, some (.if_icmp .lt 17, 3), none, none, some (.aload_n 0, 1), some (.bipush 48, 2), none, some (.iload_n 1, 1), some (.bipush 10, 2), none, some (.idiv, 1), some (.bipush 10, 2), none, some (.irem, 1), some (.iadd, 1), some (.invokevirtual 17, 3), none, none, some (.aload_n 0, 1), some (.bipush 48, 2), none, some (.iload_n 1, 1), some (.bipush 10, 2), none, some (.irem, 1), some (.iadd, 1), some (.invokevirtual 17, 3), none, none, some (.return_, 1)]
def g_m_X4_putNumber : ri_Mt := (RX4, yX4_putNumber, cX4_putNumber, 2, none, g_co_X4_putNumber, 4)
def g_co_X4_putPart : List (Option (Instr × Nat)) := [some (.aload_n 0, 1), some (.aload_n 1, 1), some (.getfield 21, 3), none, none, some (.invokevirtual 26, 3), none, none, some (.aload_n 0, 1), some (.bipush 91, 2), none, some (.invokevirtual 17, 3), none, none, some (.aload_n 0, 1), some (.aload_n 1, 1), some (.getfield 29, 3), none, none, some (.invokevirtual 26, 3), none, none, some (.aload_n 0, 1), some (.bipush 44, 2), none, some (.invokevirtual 17, 3), none, none, some (.aload_n 0, 1), some (.aload_n 1, 1), some (.getfield 32, 3), none, none, some (.invokevirtual 26, 3), none, none, some (.aload_n 0, 1), some (.bipush 93, 2), none, some (.invokevirtual 17, 3), none, none, some (.aload_n 1, 1), some (.getfield 35, 3), none, none, some (.ifCond .eq 9, 3), none, none, some (.aload_n 0, 1), some (.bipush 42, 2), none, some (.invokevirtual 17, 3), none, none, some (.iload_n 2, 1), some (.ifCond .eq 9, 3), none, none, some (.aload_n 0, 1), some (.bipush 62, 2), none, some (.invokevirtual 17, 3), none, none, some (.return_, 1)]
def g_m_X4_putPart : ri_Mt := (RX4, yX4_putPart, cX4_putPart, 3, none, g_co_X4_putPart, 4)
def g_co_X4_byteAt : List (Option (Instr × Nat)) := [some (.iload_n 1, 1), some (.ifCond .lt 20, 3), none, none, some (.iload_n 1, 1), some (.aload_n 0, 1), some (.getfield 13, 3), none, none, some (.if_icmp .ge 12, 3), none, none, some (.iload_n 1, 1), some (.aload_n 0, 1), some (.getfield 9, 3), none, none, some (.arraylength, 1), some (.if_icmp .lt 7, 3), none, none, some (.iconst (-1), 1), some (.goto 9, 3), none, none, some (.aload_n 0, 1), some (.getfield 9, 3), none, none, some (.iload_n 1, 1), some (.iaload, 1), some (.ireturn, 1)]
def g_m_X4_byteAt : ri_Mt := (RX4, yX4_byteAt, cX4_byteAt, 2, (some .int), g_co_X4_byteAt, 4)
def g_co_X5_init : List (Option (Instr × Nat)) := [some (.aload_n 0, 1), some (.invokespecial 3, 3), none, none, some (.aload_n 0, 1), some (.iload_n 1, 1), some (.putfield 9, 3), none, none, some (.return_, 1)]
def g_m_X5_init : ri_Mt := (RX5, yX5_init, cX5_init, 2, none, g_co_X5_init, 5)
def g_co_X5_copyFrom : List (Option (Instr × Nat)) := [some (.aload_n 0, 1), some (.aload_n 1, 1), some (.getfield 15, 3), none, none, some (.putfield 15, 3), none, none, some (.aload_n 0, 1), some (.aload_n 1, 1), some (.getfield 18, 3), none, none, some (.putfield 18, 3), none, none, some (.aload_n 0, 1), some (.aload_n 1, 1), some (.getfield 21, 3), none, none, some (.putfield 21, 3), none, none, some (.aload_n 0, 1), some (.aload_n 1, 1), some (.getfield 24, 3), none, none, some (.putfield 24, 3), none, none, some (.aload_n 0, 1), some (.aload_n 1, 1), some (.getfield 27, 3), none, none, some (.putfield 27, 3), none, none, some (.aload_n 0, 1), some (.aload_n 1, 1), some (.getfield 31, 3), none, none, some (.putfield 31, 3), none, none, some (.aload_n 0, 1), some (.aload_n 1, 1), some (.getfield 34, 3), none, none, some (.putfield 34, 3), none, none, some (.return_, 1)]
def g_m_X5_copyFrom : ri_Mt := (RX5, yX5_copyFrom, cX5_copyFrom, 2, none, g_co_X5_copyFrom, 5)
def g_co_X5_stands : List (Option (Instr × Nat)) := [some (.aload_n 0, 1), some (.getfield 18, 3), none, none, some (.ifCond .le 7, 3), none, none, some (.iconst 1, 1), some (.goto 4, 3), none, none, some (.iconst 0, 1), some (.ireturn, 1)]
def g_m_X5_stands : ri_Mt := (RX5, yX5_stands, cX5_stands, 1, (some .boolean), g_co_X5_stands, 5)
def g_co_X5_end : List (Option (Instr × Nat)) := [some (.aload_n 0, 1), some (.getfield 15, 3), none, none, some (.aload_n 0, 1), some (.getfield 18, 3), none, none, some (.iadd, 1), some (.ireturn, 1)]
def g_m_X5_end : ri_Mt := (RX5, yX5_end, cX5_end, 1, (some .int), g_co_X5_end, 5)
def g_co_X5_numberOf : List (Option (Instr × Nat)) := [some (.sipush 1000, 3), none, none, some (.aload_n 0, 1), some (.getfield 31, 3), none, none, some (.iconst 1, 1), some (.iadd, 1), some (.imul, 1), some (.iload_n 1, 1), some (.iadd, 1), some (.ireturn, 1)]
def g_m_X5_numberOf : ri_Mt := (RX5, yX5_numberOf, cX5_numberOf, 2, (some .int), g_co_X5_numberOf, 5)
def g_co_X5_meetsArea : List (Option (Instr × Nat)) := [some (.aload_n 0, 1), some (.getfield 18, 3), none, none, some (.ifCond .le 34, 3), none, none, some (.aload_n 0, 1), some (.getfield 15, 3), none, none, some (.i2l, 1), some (.lload_n 1, 1), some (.lload_n 3, 1), some (.ladd, 1), some (.lcmp, 1), some (.ifCond .ge 22, 3), none, none, some (.lload_n 1, 1), some (.aload_n 0, 1), some (.getfield 15, 3), none, none, some (.aload_n 0, 1), some (.getfield 18, 3), none, none, some (.iadd, 1), some (.i2l, 1), some (.lcmp, 1), some (.ifCond .ge 7, 3), none, none, some (.iconst 1, 1), some (.goto 4, 3), none, none, some (.iconst 0, 1), some (.ireturn, 1)]
def g_m_X5_meetsArea : ri_Mt := (RX5, yX5_meetsArea, cX5_meetsArea, 5, (some .boolean), g_co_X5_meetsArea, 5)
def g_co_X6_init : List (Option (Instr × Nat)) := [some (.aload_n 0, 1), some (.invokespecial 3, 3), none, none, some (.aload_n 0, 1), some (.sipush 500, 3), none, none, some (.newarray .int, 2), none, some (.putfield 9, 3), none, none, some (.aload_n 0, 1), some (.iconst 0, 1), some (.putfield 15, 3), none, none, some (.aload_n 0, 1), some (.iconst (-1), 1), some (.putfield 19, 3), none, none, some (.return_, 1)]
def g_m_X6_init : ri_Mt := (RX6, yX6_init, cX6_init, 1, none, g_co_X6_init, 6)
def g_co_X6_hasRoomFor : List (Option (Instr × Nat)) := [some (.aload_n 0, 1), some (.getfield 22, 3), none, none, some (.iload_n 1, 1), some (.iadd, 1), some (.aload_n 0, 1), some (.getfield 9, 3), none, none, some (.arraylength, 1), some (.if_icmp .gt 7, 3), none, none, some (.iconst 1, 1), some (.goto 4, 3), none, none, some (.iconst 0, 1), some (.ireturn, 1)]
def g_m_X6_hasRoomFor : ri_Mt := (RX6, yX6_hasRoomFor, cX6_hasRoomFor, 2, (some .boolean), g_co_X6_hasRoomFor, 6)
def g_co_X6_putBytes : List (Option (Instr × Nat)) := [some (.bipush 24, 2), none, some (.istore_n 2, 1), some (.iload_n 2, 1), some (.ifCond .lt 54, 3), none, none, some (.aload_n 0, 1), some (.getfield 22, 3), none, none, some (.ifCond .lt 41, 3), none, none, some (.aload_n 0, 1), some (.getfield 22, 3), none, none, some (.aload_n 0, 1), some (.getfield 9, 3), none, none, some (.arraylength, 1), some (.if_icmp .ge 29, 3), none, none, some (.aload_n 0, 1), some (.getfield 9, 3), none, none, some (.aload_n 0, 1), some (.getfield 22, 3), none, none, some (.iload_n 1, 1), some (.iload_n 2, 1), some (.iushr, 1), some (.sipush 255, 3), none, none, some (.iand, 1), some (.iastore, 1), some (.aload_n 0, 1), some (.dup, 1), some (.getfield 22, 3), none, none, some (.iconst 1, 1), some (.iadd, 1), some (.putfield 22, 3), none, none, some (.iinc 2 (-8), 3), none, none, some (.goto (-52), 3), none, none, some (.return_, 1)]
def g_m_X6_putBytes : ri_Mt := (RX6, yX6_putBytes, cX6_putBytes, 3, none, g_co_X6_putBytes, 6)
def g_co_X6_parseInto : List (Option (Instr × Nat)) := [some (.aload_n 0, 1), some (.iconst 0, 1), some (.putfield 15, 3), none, none, some (.aload_n 0, 1), some (.iconst (-1), 1), some (.putfield 19, 3), none, none, some (.aload_n 0, 1), some (.iconst 0, 1), some (.putfield 25, 3), none, none, some (.aload_n 0, 1), some (.iconst 0, 1), some (.putfield 28, 3), none, none, some (.aload_n 0, 1), some (.iconst 0, 1), some (.putfield 32, 3), none, none, some (.aload_n 0, 1), some (.iconst 0, 1), some (.putfield 35, 3), none, none, some (.aload_n 0, 1), some (.iconst 0, 1), some (.putfield 38, 3), none, none, some (.aload_n 0, 1), some (.invokevirtual 41, 3), none, none, some (.aload_n 0, 1), some (.ldc 44, 2), none, some (.invokevirtual 46, 3), none, none, some (.ifCond .ne 9, 3), none, none, some (.aload_n 0, 1), some (.iconst 1, 1), some (.invokevirtual 50, 3), none, none, some (.ireturn, 1), some (.aload_n 0, 1), some (.bipush 64, 2), none, some (.sipush 600, 3), none, none, some (.invokevirtual 54, 3), none, none, some (.ifCond .ne 5, 3), none, none, some (.iconst 0, 1), some (.ireturn, 1), some (.aload_n 1, 1), some (.aload_n 0, 1), some (.getfield 58, 3), none, none, some (.invokevirtual 61, 3), none, none, some (.aload_n 0, 1), some (.invokevirtual 67, 3), none, none, some (.istore_n 2, 1), some (.iconst 0, 1), some (.istore_n 3, 1), some (.iload_n 2, 1), some (.ifCond .eq 35, 3), none, none, some (.iload_n 3, 1), some (.sipush 500, 3), none, none, some (.if_icmp .ge 28, 3), none, none, some (.aload_n 0, 1), some (.invokevirtual 41, 3), none, none, some (.aload_n 0, 1), some (.getfield 71, 3), none, none, some (.ifCond .ne 5, 3), none, none, some (.iconst 1, 1), some (.ireturn, 1), some (.aload_n 0, 1), some (.aload_n 1, 1), some (.invokevirtual 74, 3), none, none, some (.istore_n 2, 1), some (.iinc 3 1, 3), none, none, some (.goto (-33), 3), none, none, some (.iload_n 2, 1), some (.ireturn, 1)]
def g_m_X6_parseInto : ri_Mt := (RX6, yX6_parseInto, cX6_parseInto, 4, (some .boolean), g_co_X6_parseInto, 6)
def g_co_X6_statement : List (Option (Instr × Nat)) := [some (.aload_n 0, 1), some (.ldc 78, 2), none, some (.invokevirtual 46, 3), none, none, some (.ifCond .eq 24, 3), none, none, some (.aload_n 0, 1), some (.aload_n 1, 1), some (.invokevirtual 80, 3), none, none, some (.ifCond .eq 14, 3), none, none, some (.aload_n 0, 1), some (.invokevirtual 67, 3), none, none, some (.ifCond .eq 7, 3), none, none, some (.iconst 1, 1), some (.goto 4, 3), none, none, some (.iconst 0, 1), some (.ireturn, 1), some (.aload_n 0, 1), some (.ldc 83, 2), none, some (.invokevirtual 46, 3), none, none, some (.ifCond .eq 24, 3), none, none, some (.aload_n 0, 1), some (.aload_n 1, 1), some (.invokevirtual 85, 3), none, none, some (.ifCond .eq 14, 3), none, none, some (.aload_n 0, 1), some (.invokevirtual 67, 3), none, none, some (.ifCond .eq 7, 3), none, none, some (.iconst 1, 1), some (.goto 4, 3), none, none, some (.iconst 0, 1), some (.ireturn, 1), some (.aload_n 0, 1), some (.ldc 88, 2), none, some (.invokevirtual 46, 3), none, none, some (.ifCond .eq 24, 3), none, none, some (.aload_n 0, 1), some (.aload_n 1, 1), some (.invokevirtual 90, 3), none, none, some (.ifCond .eq 14, 3), none, none, some (.aload_n 0, 1), some (.invokevirtual 67, 3), none, none, some (.ifCond .eq 7, 3), none, none, some (.iconst 1, 1), some (.goto 4, 3), none, none, some (.iconst 0, 1), some (.ireturn, 1), some (.aload_n 0, 1), some (.aload_n 1, 1), some (.invokevirtual 93, 3), none, none, some (.ifCond .eq 14, 3), none, none, some (.aload_n 0, 1), some (.invokevirtual 67, 3), none, none, some (.ifCond .eq 7, 3), none, none, some (.iconst 1, 1), some (.goto 4, 3), none, none, some (.iconst 0, 1), some (.ireturn, 1)]
def g_m_X6_statement : ri_Mt := (RX6, yX6_statement, cX6_statement, 2, (some .boolean), g_co_X6_statement, 6)
def g_co_X6_layout : List (Option (Instr × Nat)) := [some (.aload_n 0, 1), some (.ldc 96, 2), none, some (.invokevirtual 46, 3), none, none, some (.istore_n 2, 1), some (.aload_n 0, 1), some (.ldc 98, 2), none, some (.invokevirtual 46, 3), none, none, some (.istore_n 3, 1), some (.iload_n 2, 1), some (.ifCond .ne 16, 3), none, none, some (.iload_n 3, 1), some (.ifCond .ne 12, 3), none, none, some (.aload_n 0, 1), some (.ldc 100, 2), none, some (.invokevirtual 46, 3), none, none, some (.ifCond .eq 10, 3), none, none, some (.aload_n 1, 1), some (.invokevirtual 102, 3), none, none, some (.ifCond .le 9, 3), none, none, some (.aload_n 0, 1), some (.iconst 1, 1), some (.invokevirtual 50, 3), none, none, some (.ireturn, 1), some (.iload_n 2, 1), some (.ifCond .eq 13, 3), none, none, some (.aload_n 0, 1), some (.getfield 28, 3), none, none, some (.ifCond .eq 33, 3), none, none, some (.goto 24, 3), none, none, some (.iload_n 3, 1), some (.ifCond .eq 13, 3), none, none, some (.aload_n 0, 1), some (.getfield 32, 3), none, none, some (.ifCond .eq 19, 3), none, none, some (.goto 10, 3), none, none, some (.aload_n 0, 1), some (.getfield 35, 3), none, none, some (.ifCond .eq 9, 3), none, none, some (.aload_n 0, 1), some (.iconst 3, 1), some (.invokevirtual 50, 3), none, none, some (.ireturn, 1), some (.iload_n 2, 1), some (.ifCond .ne 7, 3), none, none, some (.iload_n 3, 1), some (.ifCond .eq 16, 3), none, none, some (.aload_n 0, 1), some (.iconst 0, 1), some (.bipush 31, 2), none, some (.invokevirtual 54, 3), none, none, some (.ifCond .ne 18, 3), none, none, some (.goto 13, 3), none, none, some (.aload_n 0, 1), some (.iconst 1, 1), some (.bipush 32, 2), none, some (.invokevirtual 54, 3), none, none, some (.ifCond .ne 5, 3), none, none, some (.iconst 0, 1), some (.ireturn, 1), some (.iload_n 2, 1), some (.ifCond .eq 19, 3), none, none, some (.aload_n 0, 1), some (.iconst 1, 1), some (.putfield 28, 3), none, none, some (.aload_n 1, 1), some (.aload_n 0, 1), some (.getfield 58, 3), none, none, some (.putfield 106, 3), none, none, some (.goto 36, 3), none, none, some (.iload_n 3, 1), some (.ifCond .eq 19, 3), none, none, some (.aload_n 0, 1), some (.iconst 1, 1), some (.putfield 32, 3), none, none, some (.aload_n 1, 1), some (.aload_n 0, 1), some (.getfield 58, 3), none, none, some (.putfield 108, 3), none, none, some (.goto 16, 3), none, none, some (.aload_n 0, 1), some (.iconst 1, 1), some (.putfield 35, 3), none, none, some (.aload_n 1, 1), some (.aload_n 0, 1), some (.getfield 58, 3), none, none, some (.putfield 110, 3), none, none, some (.iconst 1, 1), some (.ireturn, 1)]
def g_m_X6_layout : ri_Mt := (RX6, yX6_layout, cX6_layout, 4, (some .boolean), g_co_X6_layout, 6)
def g_co_X6_chunking : List (Option (Instr × Nat)) := [some (.aload_n 0, 1), some (.getfield 38, 3), none, none, some (.ifCond .eq 9, 3), none, none, some (.aload_n 0, 1), some (.iconst 3, 1), some (.invokevirtual 50, 3), none, none, some (.ireturn, 1), some (.aload_n 0, 1), some (.iconst 1, 1), some (.putfield 38, 3), none, none, some (.aload_n 0, 1), some (.iconst 1, 1), some (.bipush 16, 2), none, some (.invokevirtual 54, 3), none, none, some (.ifCond .ne 5, 3), none, none, some (.iconst 0, 1), some (.ireturn, 1), some (.aload_n 1, 1), some (.aload_n 0, 1), some (.getfield 58, 3), none, none, some (.putfield 112, 3), none, none, some (.iconst 1, 1), some (.ireturn, 1)]
def g_m_X6_chunking : ri_Mt := (RX6, yX6_chunking, cX6_chunking, 2, (some .boolean), g_co_X6_chunking, 6)
def g_co_X6_partition : List (Option (Instr × Nat)) := [some (.aload_n 1, 1), some (.invokevirtual 102, 3), none, none, some (.bipush 8, 2), none, some (.if_icmp .lt 9, 3), none, none, some (.aload_n 0, 1), some (.iconst 5, 1), some (.invokevirtual 50, 3), none, none, some (.ireturn, 1), some (.aload_n 0, 1), some (.aload_n 1, 1), some (.getfield 106, 3), none, none, some (.aload_n 1, 1), some (.invokevirtual 114, 3), none, none, some (.iconst 1, 1), some (.isub, 1), some (.invokevirtual 54, 3), none, none, some (.ifCond .ne 5, 3), none, none, some (.iconst 0, 1), some (.ireturn, 1), some (.aload_n 0, 1), some (.getfield 58, 3), none, none, some (.istore_n 2, 1), some (.aload_n 1, 1), some (.iload_n 2, 1), some (.invokevirtual 117, 3), none, none, some (.ifCond .ne 9, 3), none, none, some (.aload_n 0, 1), some (.iconst 2, 1), some (.invokevirtual 50, 3), none, none, some (.ireturn, 1), some (.aload_n 0, 1), some (.iconst 1, 1), some (.aload_n 1, 1), some (.invokevirtual 114, 3), none, none, some (.iload_n 2, 1), some (.isub, 1), some (.invokevirtual 54, 3), none, none, some (.ifCond .ne 5, 3), none, none, some (.iconst 0, 1), some (.ireturn, 1), some (.aload_n 0, 1), some (.getfield 58, 3), none, none, some (.istore_n 3, 1), some (.aload_n 1, 1), some (.iload_n 2, 1), some (.i2l, 1), some (.iload_n 3, 1), some (.i2l, 1), some (.invokevirtual 120, 3), none, none, some (.ifCond .eq 9, 3), none, none, some (.aload_n 0, 1), some (.iconst 4, 1), some (.invokevirtual 50, 3), none, none, some (.ireturn, 1), some (.aload_n 0, 1), some (.iconst 0, 1), some (.bipush 9, 2), none, some (.invokevirtual 54, 3), none, none, some (.ifCond .ne 5, 3), none, none, some (.iconst 0, 1), some (.ireturn, 1), some (.aload_n 0, 1), some (.getfield 58, 3), none, none, some (.istore 4, 2), none, some (.aload_n 0, 1), some (.iconst 1, 1), some (.iload_n 3, 1), some (.invokevirtual 54, 3), none, none, some (.ifCond .ne 5, 3), none, none, some (.iconst 0, 1), some (.ireturn, 1), some (.aload_n 1, 1), some (.iload_n 2, 1), some (.iload_n 3, 1), some (.iload 4, 2), none, some (.aload_n 0, 1), some (.getfield 58, 3), none, none, some (.invokevirtual 124, 3), none, none, some (.pop, 1), some (.iconst 1, 1), some (.ireturn, 1)]
def g_m_X6_partition : ri_Mt := (RX6, yX6_partition, cX6_partition, 5, (some .boolean), g_co_X6_partition, 6)
def g_co_X6_locking : List (Option (Instr × Nat)) := [some (.aload_n 0, 1), some (.iconst 0, 1), some (.aload_n 1, 1), some (.invokevirtual 102, 3), none, none, some (.iconst 1, 1), some (.isub, 1), some (.invokevirtual 54, 3), none, none, some (.ifCond .ne 5, 3), none, none, some (.iconst 0, 1), some (.ireturn, 1), some (.aload_n 1, 1), some (.aload_n 0, 1), some (.getfield 58, 3), none, none, some (.invokevirtual 128, 3), none, none, some (.astore_n 2, 1), some (.aload_n 2, 1), some (.ifnonnull 9, 3), none, none, some (.aload_n 0, 1), some (.iconst 2, 1), some (.invokevirtual 50, 3), none, none, some (.ireturn, 1), some (.aload_n 2, 1), some (.getfield 132, 3), none, none, some (.ifCond .eq 9, 3), none, none, some (.aload_n 0, 1), some (.iconst 3, 1), some (.invokevirtual 50, 3), none, none, some (.ireturn, 1), some (.aload_n 2, 1), some (.iconst 1, 1), some (.putfield 132, 3), none, none, some (.iconst 1, 1), some (.ireturn, 1)]
def g_m_X6_locking : ri_Mt := (RX6, yX6_locking, cX6_locking, 3, (some .boolean), g_co_X6_locking, 6)
def g_co_X6_semicolon : List (Option (Instr × Nat)) := [some (.aload_n 0, 1), some (.invokevirtual 41, 3), none, none, some (.aload_n 0, 1), some (.getfield 71, 3), none, none, some (.iconst 3, 1), some (.if_icmp .eq 11, 3), none, none, some (.aload_n 0, 1), some (.iconst 1, 1), some (.invokevirtual 50, 3), none, none, some (.ifCond .eq 7, 3), none, none, some (.iconst 1, 1), some (.goto 4, 3), none, none, some (.iconst 0, 1), some (.ireturn, 1)]
def g_m_X6_semicolon : ri_Mt := (RX6, yX6_semicolon, cX6_semicolon, 1, (some .boolean), g_co_X6_semicolon, 6)
def g_co_X6_number : List (Option (Instr × Nat)) := [some (.aload_n 0, 1), some (.invokevirtual 41, 3), none, none, some (.aload_n 0, 1), some (.getfield 71, 3), none, none, some (.iconst 2, 1), some (.if_icmp .eq 9, 3), none, none, some (.aload_n 0, 1), some (.iconst 1, 1), some (.invokevirtual 50, 3), none, none, some (.ireturn, 1), some (.aload_n 0, 1), some (.getfield 58, 3), none, none, some (.iload_n 1, 1), some (.if_icmp .lt 11, 3), none, none, some (.aload_n 0, 1), some (.getfield 58, 3), none, none, some (.iload_n 2, 1), some (.if_icmp .le 11, 3), none, none, some (.aload_n 0, 1), some (.iconst 2, 1), some (.invokevirtual 50, 3), none, none, some (.ifCond .eq 7, 3), none, none, some (.iconst 1, 1), some (.goto 4, 3), none, none, some (.iconst 0, 1), some (.ireturn, 1)]
def g_m_X6_number : ri_Mt := (RX6, yX6_number, cX6_number, 3, (some .boolean), g_co_X6_number, 6)
def g_co_X6_fail : List (Option (Instr × Nat)) := [some (.aload_n 0, 1), some (.iload_n 1, 1), some (.putfield 15, 3), none, none, some (.aload_n 0, 1), some (.aload_n 0, 1), some (.getfield 137, 3), none, none, some (.putfield 19, 3), none, none, some (.iconst 0, 1), some (.ireturn, 1)]
def g_m_X6_fail : ri_Mt := (RX6, yX6_fail, cX6_fail, 2, (some .boolean), g_co_X6_fail, 6)
def g_co_X6_byteAt : List (Option (Instr × Nat)) := [some (.iload_n 1, 1), some (.ifCond .lt 20, 3), none, none, some (.iload_n 1, 1), some (.aload_n 0, 1), some (.getfield 22, 3), none, none, some (.if_icmp .ge 12, 3), none, none, some (.iload_n 1, 1), some (.aload_n 0, 1), some (.getfield 9, 3), none, none, some (.arraylength, 1), some (.if_icmp .lt 7, 3), none, none, some (.iconst (-1), 1), some (.goto 9, 3), none, none, some (.aload_n 0, 1), some (.getfield 9, 3), none, none, some (.iload_n 1, 1), some (.iaload, 1), some (.ireturn, 1)]
def g_m_X6_byteAt : ri_Mt := (RX6, yX6_byteAt, cX6_byteAt, 2, (some .int), g_co_X6_byteAt, 6)
def g_co_X6_isLetter : List (Option (Instr × Nat)) := [some (.iload_n 0, 1), some (.bipush 97, 2), none, some (.if_icmp .lt 13, 3), none, none, some (.iload_n 0, 1), some (.bipush 122, 2), none, some (.if_icmp .gt 7, 3), none, none, some (.iconst 1, 1), some (.goto 4, 3), none, none, some (.iconst 0, 1), some (.ireturn, 1)]
def g_m_X6_isLetter : ri_Mt := (RX6, yX6_isLetter, cX6_isLetter, 1, (some .boolean), g_co_X6_isLetter, 6)
def g_co_X6_isDigit : List (Option (Instr × Nat)) := [some (.iload_n 0, 1), some (.bipush 48, 2), none, some (.if_icmp .lt 13, 3), none, none, some (.iload_n 0, 1), some (.bipush 57, 2), none, some (.if_icmp .gt 7, 3), none, none, some (.iconst 1, 1), some (.goto 4, 3), none, none, some (.iconst 0, 1), some (.ireturn, 1)]
def g_m_X6_isDigit : ri_Mt := (RX6, yX6_isDigit, cX6_isDigit, 1, (some .boolean), g_co_X6_isDigit, 6)
def g_co_X6_next : List (Option (Instr × Nat)) := [some (.aload_n 0, 1), some (.getfield 25, 3), none, none, some (.aload_n 0, 1), some (.getfield 22, 3), none, none, some (.if_icmp .ge 42, 3), none, none, some (.aload_n 0, 1), some (.aload_n 0, 1), some (.getfield 25, 3), none, none, some (.invokevirtual 140, 3), none, none, some (.bipush 32, 2), none, some (.if_icmp .eq 16, 3), none, none, some (.aload_n 0, 1), some (.aload_n 0, 1), some (.getfield 25, 3), none, none, some (.invokevirtual 140, 3), none, none, some (.bipush 10, 2), none, some (.if_icmp .ne 16, 3), none, none, some (.aload_n 0, 1), some (.dup, 1), some (.getfield 25, 3), none, none, some (.iconst 1, 1), some (.iadd, 1), some (.putfield 25, 3), none, none, some (.goto (-47), 3), none, none, some (.aload_n 0, 1), some (.aload_n 0, 1), some (.getfield 25, 3), none, none, some (.putfield 137, 3), none, none, some (.aload_n 0, 1), some (.getfield 25, 3), none, none, some (.aload_n 0, 1), some (.getfield 22, 3), none, none, some (.if_icmp .lt 9, 3), none, none, some (.aload_n 0, 1), some (.iconst 0, 1), some (.putfield 71, 3), none, none, some (.return_, 1), some (.aload_n 0, 1), some (.aload_n 0, 1), some (.getfield 25, 3), none, none, some (.invokevirtual 140, 3), none, none, some (.istore_n 1, 1), some (.aload_n 0, 1), some (.dup, 1), some (.getfield 25, 3), none, none, some (.iconst 1, 1), some (.iadd, 1), some (.putfield 25, 3), none, none, some (.iload_n 1, 1), some (.invokestatic 144, 3), none, none, some (.ifCond .eq 47, 3), none, none, some (.aload_n 0, 1), some (.iconst 1, 1), some (.putfield 71, 3), none, none, some (.aload_n 0, 1), some (.getfield 25, 3), none, none, some (.aload_n 0, 1), some (.getfield 22, 3), none, none, some (.if_icmp .ge 30, 3), none, none, some (.aload_n 0, 1), some (.aload_n 0, 1), some (.getfield 25, 3), none, none, some (.invokevirtual 140, 3), none, none, some (.invokestatic 144, 3), none, none, some (.ifCond .eq 16, 3), none, none, some (.aload_n 0, 1), some (.dup, 1), some (.getfield 25, 3), none, none, some (.iconst 1, 1), some (.iadd, 1), some (.putfield 25, 3), none, none, some (.goto (-35), 3), none, none, some (.return_, 1), some (.iload_n 1, 1), some (.invokestatic 147, 3), none, none, some (.ifCond .ne 19, 3), none, none, some (.aload_n 0, 1), some (.iload_n 1, 1), some (.bipush 59, 2), none, some (.if_icmp .ne 7, 3), none, none, some (.iconst 3, 1), some (.goto 4, 3), none, none, some (.iconst 4, 1), some (.putfield 71, 3), none, none, some (.return_, 1), some (.aload_n 0, 1), some (.iload_n 1, 1), some (.bipush 48, 2), none, some (.isub, 1), some (.putfield 58, 3), none, none, some (.aload_n 0, 1), some (.getfield 25, 3), none, none, some (.aload_n 0, 1), some (.getfield 22, 3), none, none, some (.if_icmp .ge 66, 3), none, none, some (.aload_n 0, 1), some (.aload_n 0, 1), some (.getfield 25, 3), none, none, some (.invokevirtual 140, 3), none, none, some (.invokestatic 147, 3), none, none, some (.ifCond .eq 52, 3), none, none, some (.aload_n 0, 1), some (.getfield 25, 3), none, none, some (.aload_n 0, 1), some (.getfield 137, 3), none, none, some (.isub, 1), some (.iconst 3, 1), some (.if_icmp .ge 26, 3), none, none, some (.aload_n 0, 1), some (.aload_n 0, 1), some (.getfield 58, 3), none, none, some (.bipush 10, 2), none, some (.imul, 1), some (.aload_n 0, 1), some (.aload_n 0, 1), some (.getfield 25, 3), none, none, some (.invokevirtual 140, 3), none, none, some (.iadd, 1), some (.bipush 48, 2), none, some (.isub, 1), some (.putfield 58, 3), none, none, some (.aload_n 0, 1), some (.dup, 1), some (.getfield 25, 3), none, none, some (.iconst 1, 1), some (.iadd, 1), some (.putfield 25, 3), none, none, some (.goto (-71), 3), none, none, some (.aload_n 0, 1), some (.aload_n 0, 1), some (.getfield 25, 3), none, none, some (.aload_n 0, 1), some (.getfield 137, 3), none, none, some (.isub, 1), some (.iconst 3, 1), some (.if_icmp .le 7, 3), none, none, some (.iconst 4, 1), some (.goto 4, 3), none, none, some (.iconst 2, 1), some (.putfield 71, 3), none, none, some (.return_, 1)]
def g_m_X6_next : ri_Mt := (RX6, yX6_next, cX6_next, 2, none, g_co_X6_next, 6)
def g_co_X6_isWord : List (Option (Instr × Nat)) := [some (.aload_n 0, 1), some (.getfield 71, 3), none, none, some (.iconst 1, 1), some (.if_icmp .ne 19, 3), none, none, some (.aload_n 0, 1), some (.getfield 25, 3), none, none, some (.aload_n 0, 1), some (.getfield 137, 3), none, none, some (.isub, 1), some (.aload_n 1, 1), some (.invokevirtual 150, 3), none, none, some (.if_icmp .eq 5, 3), none, none, some (.iconst 0, 1), some (.ireturn, 1), some (.iconst 0, 1), some (.istore_n 2, 1), some (.iload_n 2, 1), some (.aload_n 1, 1), some (.invokevirtual 150, 3), none, none, some (.if_icmp .ge 29, 3), none, none, some (.aload_n 0, 1), some (.aload_n 0, 1), some (.getfield 137, 3), none, none, some (.iload_n 2, 1), some (.iadd, 1), some (.invokevirtual 140, 3), none, none, some (.aload_n 1, 1), some (.iload_n 2, 1), some (.invokevirtual 154, 3), none, none, some (.if_icmp .eq 5, 3), none, none, some (.iconst 0, 1), some (.ireturn, 1), some (.iinc 2 1, 3), none, none, some (.goto (-31), 3), none, none, some (.iconst 1, 1), some (.ireturn, 1)]
def g_m_X6_isWord : ri_Mt := (RX6, yX6_isWord, cX6_isWord, 3, (some .boolean), g_co_X6_isWord, 6)
def g_co_X7_init : List (Option (Instr × Nat)) := [some (.aload_n 0, 1), some (.invokespecial 1, 3), none, none, some (.aload_n 0, 1), some (.new 7, 3), none, none, some (.dup, 1), some (.invokespecial 9, 3), none, none, some (.putfield 10, 3), none, none, some (.aload_n 0, 1), some (.new 7, 3), none, none, some (.dup, 1), some (.invokespecial 9, 3), none, none, some (.putfield 16, 3), none, none, some (.aload_n 0, 1), some (.new 7, 3), none, none, some (.dup, 1), some (.invokespecial 9, 3), none, none, some (.putfield 19, 3), none, none, some (.aload_n 0, 1), some (.new 22, 3), none, none, some (.dup, 1), some (.invokespecial 24, 3), none, none, some (.putfield 25, 3), none, none, some (.aload_n 0, 1), some (.new 29, 3), none, none, some (.dup, 1), some (.invokespecial 31, 3), none, none, some (.putfield 32, 3), none, none, some (.aload_n 0, 1), some (.new 36, 3), none, none, some (.dup, 1), some (.invokespecial 38, 3), none, none, some (.putfield 39, 3), none, none, some (.aload_n 0, 1), some (.new 43, 3), none, none, some (.dup, 1), some (.invokespecial 45, 3), none, none, some (.putfield 46, 3), none, none, some (.aload_n 0, 1), some (.getfield 10, 3), none, none, some (.bipush 64, 2), none, some (.invokevirtual 50, 3), none, none, some (.return_, 1)]
def g_m_X7_init : ri_Mt := (RX7, yX7_init, cX7_init, 1, none, g_co_X7_init, 7)
def g_co_X7_appendInput : List (Option (Instr × Nat)) := [some (.aload_n 0, 1), some (.getfield 39, 3), none, none, some (.bipush 20, 2), none, some (.invokevirtual 54, 3), none, none, some (.ifCond .ne 5, 3), none, none, some (.iconst (-1), 1), some (.ireturn, 1), some (.aload_n 0, 1), some (.getfield 39, 3), none, none, some (.iload_n 1, 1), some (.invokevirtual 58, 3), none, none, some (.aload_n 0, 1), some (.getfield 39, 3), none, none, some (.iload_n 2, 1), some (.invokevirtual 58, 3), none, none, some (.aload_n 0, 1), some (.getfield 39, 3), none, none, some (.iload_n 3, 1), some (.invokevirtual 58, 3), none, none, some (.aload_n 0, 1), some (.getfield 39, 3), none, none, some (.iload 4, 2), none, some (.invokevirtual 58, 3), none, none, some (.aload_n 0, 1), some (.getfield 39, 3), none, none, some (.iload 5, 2), none, some (.invokevirtual 58, 3), none, none, some (.aload_n 0, 1), some (.getfield 39, 3), none, none, some (.getfield 61, 3), none, none, some (.ireturn, 1)]
def g_m_X7_appendInput : ri_Mt := (RX7, yX7_appendInput, cX7_appendInput, 6, (some .int), g_co_X7_appendInput, 7)
def g_co_X7_truncateInput : List (Option (Instr × Nat)) := [some (.iload_n 1, 1), some (.ifCond .lt 14, 3), none, none, some (.iload_n 1, 1), some (.aload_n 0, 1), some (.getfield 39, 3), none, none, some (.getfield 61, 3), none, none, some (.if_icmp .le 5, 3), none, none, some (.iconst 0, 1), some (.ireturn, 1), some (.aload_n 0, 1), some (.getfield 39, 3), none, none, some (.iload_n 1, 1), some (.putfield 61, 3), none, none, some (.iconst 1, 1), some (.ireturn, 1)]
def g_m_X7_truncateInput : ri_Mt := (RX7, yX7_truncateInput, cX7_truncateInput, 2, (some .boolean), g_co_X7_truncateInput, 7)
def g_co_X7_loadDisk : List (Option (Instr × Nat)) := [some (.aload_n 0, 1), some (.getfield 39, 3), none, none, some (.aload_n 0, 1), some (.getfield 16, 3), none, none, some (.invokevirtual 65, 3), none, none, some (.istore_n 1, 1), some (.aload_n 0, 1), some (.getfield 39, 3), none, none, some (.iconst 0, 1), some (.putfield 61, 3), none, none, some (.iload_n 1, 1), some (.ifCond .ne 5, 3), none, none, some (.iconst (-1), 1), some (.ireturn, 1), some (.aload_n 0, 1), some (.getfield 10, 3), none, none, some (.aload_n 0, 1), some (.getfield 16, 3), none, none, some (.invokevirtual 69, 3), none, none, some (.aload_n 0, 1), some (.getfield 25, 3), none, none, some (.invokevirtual 73, 3), none, none, some (.aload_n 0, 1), some (.iconst 0, 1), some (.putfield 76, 3), none, none, some (.aload_n 0, 1), some (.getfield 46, 3), none, none, some (.invokevirtual 80, 3), none, none, some (.aload_n 0, 1), some (.getfield 10, 3), none, none, some (.invokevirtual 83, 3), none, none, some (.ireturn, 1)]
def g_m_X7_loadDisk : ri_Mt := (RX7, yX7_loadDisk, cX7_loadDisk, 2, (some .int), g_co_X7_loadDisk, 7)
def g_co_X7_errorCode : List (Option (Instr × Nat)) := [some (.aload_n 0, 1), some (.getfield 39, 3), none, none, some (.getfield 87, 3), none, none, some (.ireturn, 1)]
def g_m_X7_errorCode : ri_Mt := (RX7, yX7_errorCode, cX7_errorCode, 1, (some .int), g_co_X7_errorCode, 7)
def g_co_X7_errorOffset : List (Option (Instr × Nat)) := [some (.aload_n 0, 1), some (.getfield 39, 3), none, none, some (.getfield 90, 3), none, none, some (.ireturn, 1)]
def g_m_X7_errorOffset : ri_Mt := (RX7, yX7_errorOffset, cX7_errorOffset, 1, (some .int), g_co_X7_errorOffset, 7)
def g_co_X7_count : List (Option (Instr × Nat)) := [some (.iload_n 1, 1), some (.tableswitch 159 0 11 #[63, 71, 79, 87, 95, 103, 111, 119, 127, 135, 143, 151], 63), none, none, none, none, none, none, none, none, none, none, none, none, none, none, none, none, none, none, none, none, none, none, none, none, none, none, none, none, none, none, none, none, none, none, none, none, none, none, none, none, none, none, none, none, none, none, none, none, none, none, none, none, none, none, none, none, none, none, none, none, none, none, some (.aload_n 0, 1), some (.getfield 10, 3), none, none, some (.getfield 93, 3), none, none, some (.ireturn, 1), some (.aload_n 0, 1), some (.getfield 10, 3), none, none, some (.getfield 94, 3), none, none, some (.ireturn, 1), some (.aload_n 0, 1), some (.getfield 10, 3), none, none, some (.getfield 97, 3), none, none, some (.ireturn, 1), some (.aload_n 0, 1), some (.getfield 10, 3), none, none, some (.getfield 100, 3), none, none, some (.ireturn, 1), some (.aload_n 0, 1), some (.getfield 10, 3), none, none, some (.getfield 103, 3), none, none, some (.ireturn, 1), some (.aload_n 0, 1), some (.getfield 10, 3), none, none, some (.invokevirtual 83, 3), none, none, some (.ireturn, 1), some (.aload_n 0, 1), some (.invokevirtual 106, 3), none, none, some (.invokevirtual 110, 3), none, none, some (.ireturn, 1), some (.aload_n 0, 1), some (.invokevirtual 106, 3), none, none, some (.getfield 113, 3), none, none, some (.ireturn, 1), some (.aload_n 0, 1), some (.getfield 10, 3), none, none, some (.getfield 116, 3), none, none, some (.ireturn, 1), some (.aload_n 0, 1), some (.getfield 10, 3), none, none, some (.getfield 119, 3), none, none, some (.ireturn, 1), some (.aload_n 0, 1), some (.getfield 10, 3), none, none, some (.getfield 122, 3), none, none, some (.ireturn, 1), some (.aload_n 0, 1), some (.getfield 25, 3), none, none, some (.getfield 125, 3), none, none, some (.ireturn, 1), some (.new 128, 3), none, none, some (.dup, 1), some (.ldc 130, 2), none, some (.invokespecial 132, 3), none, none, some (.athrow, 1)]
def g_m_X7_count : ri_Mt := (RX7, yX7_count, cX7_count, 2, (some .int), g_co_X7_count, 7)
def g_co_X7_part : List (Option (Instr × Nat)) := [some (.iload_n 2, 1), some (.ifCond .lt 9, 3), none, none, some (.iload_n 2, 1), some (.bipush 6, 2), none, some (.if_icmp .le 13, 3), none, none, some (.new 128, 3), none, none, some (.dup, 1), some (.ldc 130, 2), none, some (.invokespecial 132, 3), none, none, some (.athrow, 1), some (.aload_n 0, 1), some (.iload_n 1, 1), some (.invokevirtual 135, 3), none, none, some (.astore_n 3, 1), some (.iload_n 2, 1), some (.tableswitch 75 0 5 #[37, 42, 47, 52, 57, 70], 37), none, none, none, none, none, none, none, none, none, none, none, none, none, none, none, none, none, none, none, none, none, none, none, none, none, none, none, none, none, none, none, none, none, none, none, none, some (.aload_n 3, 1), some (.getfield 139, 3), none, none, some (.ireturn, 1), some (.aload_n 3, 1), some (.getfield 144, 3), none, none, some (.ireturn, 1), some (.aload_n 3, 1), some (.getfield 147, 3), none, none, some (.ireturn, 1), some (.aload_n 3, 1), some (.getfield 150, 3), none, none, some (.ireturn, 1), some (.aload_n 3, 1), some (.getfield 153, 3), none, none, some (.ifCond .eq 7, 3), none, none, some (.iconst 1, 1), some (.goto 4, 3), none, none, some (.iconst 0, 1), some (.ireturn, 1), some (.aload_n 3, 1), some (.getfield 156, 3), none, none, some (.ireturn, 1), some (.aload_n 3, 1), some (.getfield 159, 3), none, none, some (.ireturn, 1)]
def g_m_X7_part : ri_Mt := (RX7, yX7_part, cX7_part, 4, (some .int), g_co_X7_part, 7)
def g_co_X7_sector : List (Option (Instr × Nat)) := [some (.aload_n 0, 1), some (.iload_n 1, 1), some (.invokevirtual 162, 3), none, none, some (.aload_n 0, 1), some (.getfield 10, 3), none, none, some (.iload_n 1, 1), some (.invokevirtual 165, 3), none, none, some (.ireturn, 1)]
def g_m_X7_sector : ri_Mt := (RX7, yX7_sector, cX7_sector, 2, (some .int), g_co_X7_sector, 7)
def g_co_X7_owner : List (Option (Instr × Nat)) := [some (.aload_n 0, 1), some (.iload_n 1, 1), some (.invokevirtual 162, 3), none, none, some (.aload_n 0, 1), some (.getfield 10, 3), none, none, some (.iload_n 1, 1), some (.invokevirtual 169, 3), none, none, some (.ireturn, 1)]
def g_m_X7_owner : ri_Mt := (RX7, yX7_owner, cX7_owner, 2, (some .int), g_co_X7_owner, 7)
def g_co_X7_place : List (Option (Instr × Nat)) := [some (.aload_n 0, 1), some (.iload_n 1, 1), some (.invokevirtual 135, 3), none, none, some (.astore_n 3, 1), some (.iload_n 2, 1), some (.ifCond .lt 11, 3), none, none, some (.iload_n 2, 1), some (.aload_n 3, 1), some (.getfield 144, 3), none, none, some (.if_icmp .lt 13, 3), none, none, some (.new 172, 3), none, none, some (.dup, 1), some (.ldc 174, 2), none, some (.invokespecial 176, 3), none, none, some (.athrow, 1), some (.aload_n 0, 1), some (.getfield 10, 3), none, none, some (.aload_n 3, 1), some (.iload_n 2, 1), some (.invokevirtual 177, 3), none, none, some (.ireturn, 1)]
def g_m_X7_place : ri_Mt := (RX7, yX7_place, cX7_place, 4, (some .int), g_co_X7_place, 7)
def g_co_X7_isWhole : List (Option (Instr × Nat)) := [some (.aload_n 0, 1), some (.getfield 10, 3), none, none, some (.aload_n 0, 1), some (.iload_n 1, 1), some (.invokevirtual 135, 3), none, none, some (.invokevirtual 181, 3), none, none, some (.ireturn, 1)]
def g_m_X7_isWhole : ri_Mt := (RX7, yX7_isWhole, cX7_isWhole, 2, (some .boolean), g_co_X7_isWhole, 7)
def g_co_X7_byStart : List (Option (Instr × Nat)) := [some (.iload_n 1, 1), some (.ifCond .ge 13, 3), none, none, some (.new 172, 3), none, none, some (.dup, 1), some (.ldc 185, 2), none, some (.invokespecial 176, 3), none, none, some (.athrow, 1), some (.iload_n 1, 1), some (.bipush 8, 2), none, some (.if_icmp .lt 5, 3), none, none, some (.iconst (-1), 1), some (.ireturn, 1), some (.aload_n 0, 1), some (.getfield 10, 3), none, none, some (.iconst (-1), 1), some (.invokevirtual 187, 3), none, none, some (.astore_n 2, 1), some (.iconst 0, 1), some (.istore_n 3, 1), some (.iload_n 3, 1), some (.iload_n 1, 1), some (.if_icmp .ge 25, 3), none, none, some (.aload_n 2, 1), some (.ifnull 21, 3), none, none, some (.aload_n 0, 1), some (.getfield 10, 3), none, none, some (.aload_n 2, 1), some (.getfield 139, 3), none, none, some (.invokevirtual 187, 3), none, none, some (.astore_n 2, 1), some (.iinc 3 1, 3), none, none, some (.goto (-24), 3), none, none, some (.aload_n 2, 1), some (.ifnonnull 7, 3), none, none, some (.iconst (-1), 1), some (.goto 7, 3), none, none, some (.aload_n 2, 1), some (.getfield 190, 3), none, none, some (.ireturn, 1)]
def g_m_X7_byStart : ri_Mt := (RX7, yX7_byStart, cX7_byStart, 4, (some .int), g_co_X7_byStart, 7)
def g_co_X7_behind : List (Option (Instr × Nat)) := [some (.aload_n 0, 1), some (.getfield 10, 3), none, none, some (.aload_n 0, 1), some (.iload_n 1, 1), some (.invokevirtual 135, 3), none, none, some (.getfield 139, 3), none, none, some (.invokevirtual 187, 3), none, none, some (.astore_n 2, 1), some (.aload_n 2, 1), some (.ifnonnull 7, 3), none, none, some (.iconst (-1), 1), some (.goto 7, 3), none, none, some (.aload_n 2, 1), some (.getfield 190, 3), none, none, some (.ireturn, 1)]
def g_m_X7_behind : ri_Mt := (RX7, yX7_behind, cX7_behind, 3, (some .int), g_co_X7_behind, 7)
def g_co_X7_overlapped : List (Option (Instr × Nat)) := [some (.iload_n 2, 1), some (.iconst 1, 1), some (.if_icmp .ge 7, 3), none, none, some (.iconst 0, 1), some (.goto 14, 3), none, none, some (.aload_n 0, 1), some (.getfield 10, 3), none, none, some (.iload_n 1, 1), some (.i2l, 1), some (.iload_n 2, 1), some (.i2l, 1), some (.invokevirtual 193, 3), none, none, some (.ireturn, 1)]
def g_m_X7_overlapped : ri_Mt := (RX7, yX7_overlapped, cX7_overlapped, 3, (some .int), g_co_X7_overlapped, 7)
def g_co_X7_used : List (Option (Instr × Nat)) := [some (.aload_n 0, 1), some (.getfield 10, 3), none, none, some (.invokevirtual 197, 3), none, none, some (.aload_n 0, 1), some (.getfield 10, 3), none, none, some (.getfield 94, 3), none, none, some (.isub, 1), some (.istore_n 1, 1), some (.iload_n 1, 1), some (.iconst 1, 1), some (.if_icmp .ge 7, 3), none, none, some (.dconst 0, 1), some (.goto 14, 3), none, none, some (.aload_n 0, 1), some (.getfield 10, 3), none, none, some (.invokevirtual 200, 3), none, none, some (.i2d, 1), some (.iload_n 1, 1), some (.i2d, 1), some (.ddiv, 1), some (.dreturn, 1)]
def g_m_X7_used : ri_Mt := (RX7, yX7_used, cX7_used, 2, (some .double), g_co_X7_used, 7)
def g_co_X7_slack : List (Option (Instr × Nat)) := [some (.iconst 0, 1), some (.istore_n 1, 1), some (.aload_n 0, 1), some (.getfield 10, 3), none, none, some (.getfield 203, 3), none, none, some (.astore_n 2, 1), some (.aload_n 2, 1), some (.arraylength, 1), some (.istore_n 3, 1), some (.iconst 0, 1), some (.istore 4, 2), none, some (.iload 4, 2), none, some (.iload_n 3, 1), some (.if_icmp .ge 41, 3), none, none, some (.aload_n 2, 1), some (.iload 4, 2), none, some (.aaload, 1), some (.astore 5, 2), none, some (.aload_n 0, 1), some (.getfield 10, 3), none, none, some (.aload 5, 2), none, some (.invokevirtual 207, 3), none, none, some (.ifCond .eq 17, 3), none, none, some (.iload_n 1, 1), some (.aload 5, 2), none, some (.getfield 144, 3), none, none, some (.aload 5, 2), none, some (.getfield 147, 3), none, none, some (.isub, 1), some (.iadd, 1), some (.istore_n 1, 1), some (.iinc 4 1, 3), none, none, some (.goto (-41), 3), none, none, some (.iload_n 1, 1), some (.ireturn, 1)]
def g_m_X7_slack : ri_Mt := (RX7, yX7_slack, cX7_slack, 6, (some .int), g_co_X7_slack, 7)
def g_co_X7_ofKind : List (Option (Instr × Nat)) := [some (.iload_n 1, 1), some (.ifCond .lt 9, 3), none, none, some (.iload_n 1, 1), some (.bipush 9, 2), none, some (.if_icmp .le 13, 3), none, none, some (.new 128, 3), none, none, some (.dup, 1), some (.ldc 210, 2), none, some (.invokespecial 132, 3), none, none, some (.athrow, 1), some (.iconst 0, 1), some (.istore_n 2, 1), some (.aload_n 0, 1), some (.getfield 10, 3), none, none, some (.getfield 203, 3), none, none, some (.astore_n 3, 1), some (.aload_n 3, 1), some (.arraylength, 1), some (.istore 4, 2), none, some (.iconst 0, 1), some (.istore 5, 2), none, some (.iload 5, 2), none, some (.iload 4, 2), none, some (.if_icmp .ge 40, 3), none, none, some (.aload_n 3, 1), some (.iload 5, 2), none, some (.aaload, 1), some (.astore 6, 2), none, some (.aload 6, 2), none, some (.invokevirtual 212, 3), none, none, some (.ifCond .eq 20, 3), none, none, some (.aload 6, 2), none, some (.getfield 150, 3), none, none, some (.iload_n 1, 1), some (.if_icmp .ne 11, 3), none, none, some (.iload_n 2, 1), some (.aload 6, 2), none, some (.getfield 144, 3), none, none, some (.iadd, 1), some (.istore_n 2, 1), some (.iinc 5 1, 3), none, none, some (.goto (-41), 3), none, none, some (.iload_n 2, 1), some (.ireturn, 1)]
def g_m_X7_ofKind : ri_Mt := (RX7, yX7_ofKind, cX7_ofKind, 7, (some .int), g_co_X7_ofKind, 7)
def g_co_X7_copies : List (Option (Instr × Nat)) := [some (.aload_n 0, 1), some (.getfield 10, 3), none, none, some (.aload_n 0, 1), some (.iload_n 1, 1), some (.invokevirtual 135, 3), none, none, some (.invokevirtual 216, 3), none, none, some (.ireturn, 1)]
def g_m_X7_copies : ri_Mt := (RX7, yX7_copies, cX7_copies, 2, (some .int), g_co_X7_copies, 7)
def g_co_X7_verify : List (Option (Instr × Nat)) := [some (.iconst 0, 1), some (.istore_n 1, 1), some (.aload_n 0, 1), some (.getfield 10, 3), none, none, some (.getfield 203, 3), none, none, some (.astore_n 2, 1), some (.aload_n 2, 1), some (.arraylength, 1), some (.istore_n 3, 1), some (.iconst 0, 1), some (.istore 4, 2), none, some (.iload 4, 2), none, some (.iload_n 3, 1), some (.if_icmp .ge 45, 3), none, none, some (.aload_n 2, 1), some (.iload 4, 2), none, some (.aaload, 1), some (.astore 5, 2), none, some (.aload 5, 2), none, some (.invokevirtual 212, 3), none, none, some (.ifCond .eq 25, 3), none, none, some (.aload_n 0, 1), some (.getfield 10, 3), none, none, some (.aload 5, 2), none, some (.invokevirtual 181, 3), none, none, some (.ifCond .eq 13, 3), none, none, some (.iload_n 1, 1), some (.iconst 1, 1), some (.aload 5, 2), none, some (.getfield 190, 3), none, none, some (.ishl, 1), some (.ior, 1), some (.istore_n 1, 1), some (.iinc 4 1, 3), none, none, some (.goto (-45), 3), none, none, some (.iload_n 1, 1), some (.ireturn, 1)]
def g_m_X7_verify : ri_Mt := (RX7, yX7_verify, cX7_verify, 6, (some .int), g_co_X7_verify, 7)
def g_co_X7_gap : List (Option (Instr × Nat)) := [some (.aload_n 0, 1), some (.invokevirtual 106, 3), none, none, some (.astore_n 3, 1), some (.iload_n 1, 1), some (.ifCond .lt 11, 3), none, none, some (.iload_n 1, 1), some (.aload_n 3, 1), some (.getfield 113, 3), none, none, some (.if_icmp .lt 13, 3), none, none, some (.new 172, 3), none, none, some (.dup, 1), some (.ldc 220, 2), none, some (.invokespecial 176, 3), none, none, some (.athrow, 1), some (.iload_n 2, 1), some (.tableswitch 68 0 3 #[32, 38, 44, 62], 32), none, none, none, none, none, none, none, none, none, none, none, none, none, none, none, none, none, none, none, none, none, none, none, none, none, none, none, none, none, none, none, some (.aload_n 3, 1), some (.iload_n 1, 1), some (.invokevirtual 222, 3), none, none, some (.ireturn, 1), some (.aload_n 3, 1), some (.iload_n 1, 1), some (.invokevirtual 224, 3), none, none, some (.ireturn, 1), some (.aload_n 3, 1), some (.iload_n 1, 1), some (.invokevirtual 226, 3), none, none, some (.ifCond .le 11, 3), none, none, some (.aload_n 3, 1), some (.iload_n 1, 1), some (.invokevirtual 229, 3), none, none, some (.goto 4, 3), none, none, some (.iconst (-1), 1), some (.ireturn, 1), some (.aload_n 3, 1), some (.iload_n 1, 1), some (.invokevirtual 226, 3), none, none, some (.ireturn, 1), some (.new 128, 3), none, none, some (.dup, 1), some (.ldc 130, 2), none, some (.invokespecial 132, 3), none, none, some (.athrow, 1)]
def g_m_X7_gap : ri_Mt := (RX7, yX7_gap, cX7_gap, 4, (some .int), g_co_X7_gap, 7)
def g_co_X7_largestGap : List (Option (Instr × Nat)) := [some (.aload_n 0, 1), some (.invokevirtual 106, 3), none, none, some (.invokevirtual 232, 3), none, none, some (.ireturn, 1)]
def g_m_X7_largestGap : ri_Mt := (RX7, yX7_largestGap, cX7_largestGap, 1, (some .int), g_co_X7_largestGap, 7)
def g_co_X7_fit : List (Option (Instr × Nat)) := [some (.aload_n 0, 1), some (.iload_n 2, 1), some (.invokevirtual 235, 3), none, none, some (.aload_n 0, 1), some (.invokevirtual 106, 3), none, none, some (.iload_n 1, 1), some (.iload_n 2, 1), some (.invokevirtual 238, 3), none, none, some (.ireturn, 1)]
def g_m_X7_fit : ri_Mt := (RX7, yX7_fit, cX7_fit, 3, (some .int), g_co_X7_fit, 7)
def g_co_X7_waste : List (Option (Instr × Nat)) := [some (.aload_n 0, 1), some (.invokevirtual 106, 3), none, none, some (.astore_n 1, 1), some (.aload_n 1, 1), some (.invokevirtual 110, 3), none, none, some (.aload_n 1, 1), some (.invokevirtual 242, 3), none, none, some (.isub, 1), some (.ireturn, 1)]
def g_m_X7_waste : ri_Mt := (RX7, yX7_waste, cX7_waste, 2, (some .int), g_co_X7_waste, 7)
def g_co_X7_scatter : List (Option (Instr × Nat)) := [some (.aload_n 0, 1), some (.invokevirtual 106, 3), none, none, some (.astore_n 1, 1), some (.aload_n 1, 1), some (.invokevirtual 110, 3), none, none, some (.istore_n 2, 1), some (.iload_n 2, 1), some (.iconst 1, 1), some (.if_icmp .ge 7, 3), none, none, some (.fconst 0, 1), some (.goto 13, 3), none, none, some (.fconst 1, 1), some (.aload_n 1, 1), some (.invokevirtual 232, 3), none, none, some (.i2f, 1), some (.iload_n 2, 1), some (.i2f, 1), some (.fdiv, 1), some (.fsub, 1), some (.freturn, 1)]
def g_m_X7_scatter : ri_Mt := (RX7, yX7_scatter, cX7_scatter, 3, (some .float), g_co_X7_scatter, 7)
def g_co_X7_gapAt : List (Option (Instr × Nat)) := [some (.aload_n 0, 1), some (.iload_n 1, 1), some (.invokevirtual 162, 3), none, none, some (.aload_n 0, 1), some (.invokevirtual 106, 3), none, none, some (.iload_n 1, 1), some (.invokevirtual 245, 3), none, none, some (.ireturn, 1)]
def g_m_X7_gapAt : ri_Mt := (RX7, yX7_gapAt, cX7_gapAt, 2, (some .int), g_co_X7_gapAt, 7)
def g_co_X7_reason : List (Option (Instr × Nat)) := [some (.aload_n 0, 1), some (.getfield 10, 3), none, none, some (.iload_n 1, 1), some (.iload_n 2, 1), some (.invokevirtual 248, 3), none, none, some (.ireturn, 1)]
def g_m_X7_reason : ri_Mt := (RX7, yX7_reason, cX7_reason, 3, (some .int), g_co_X7_reason, 7)
def g_co_X7_add : List (Option (Instr × Nat)) := [some (.aload_n 0, 1), some (.iload_n 3, 1), some (.iload 4, 2), none, some (.iload_n 2, 1), some (.invokevirtual 251, 3), none, none, some (.aload_n 0, 1), some (.getfield 10, 3), none, none, some (.iload_n 1, 1), some (.iload_n 2, 1), some (.invokevirtual 248, 3), none, none, some (.ifCond .eq 13, 3), none, none, some (.new 128, 3), none, none, some (.dup, 1), some (.ldc 255, 2), none, some (.invokespecial 132, 3), none, none, some (.athrow, 1), some (.aload_n 0, 1), some (.invokevirtual 257, 3), none, none, some (.aload_n 0, 1), some (.getfield 25, 3), none, none, some (.aload_n 0, 1), some (.getfield 10, 3), none, none, some (.invokevirtual 260, 3), none, none, some (.aload_n 0, 1), some (.getfield 10, 3), none, none, some (.iload_n 1, 1), some (.iload_n 2, 1), some (.iload_n 3, 1), some (.iload 4, 2), none, some (.invokevirtual 263, 3), none, none, some (.ireturn, 1)]
def g_m_X7_add : ri_Mt := (RX7, yX7_add, cX7_add, 5, (some .int), g_co_X7_add, 7)
def g_co_X7_addBy : List (Option (Instr × Nat)) := [some (.aload_n 0, 1), some (.iload_n 2, 1), some (.iload_n 3, 1), some (.iload_n 1, 1), some (.invokevirtual 251, 3), none, none, some (.aload_n 0, 1), some (.iload 4, 2), none, some (.invokevirtual 235, 3), none, none, some (.aload_n 0, 1), some (.invokevirtual 257, 3), none, none, some (.aload_n 0, 1), some (.invokevirtual 106, 3), none, none, some (.iload_n 1, 1), some (.iload 4, 2), none, some (.invokevirtual 238, 3), none, none, some (.istore 5, 2), none, some (.iload 5, 2), none, some (.ifCond .ge 14, 3), none, none, some (.new 267, 3), none, none, some (.dup, 1), some (.ldc_w 269, 3), none, none, some (.invokespecial 271, 3), none, none, some (.athrow, 1), some (.aload_n 0, 1), some (.getfield 25, 3), none, none, some (.aload_n 0, 1), some (.getfield 10, 3), none, none, some (.invokevirtual 260, 3), none, none, some (.aload_n 0, 1), some (.getfield 10, 3), none, none, some (.iload 5, 2), none, some (.iload_n 1, 1), some (.iload_n 2, 1), some (.iload_n 3, 1), some (.invokevirtual 263, 3), none, none, some (.ireturn, 1)]
def g_m_X7_addBy : ri_Mt := (RX7, yX7_addBy, cX7_addBy, 6, (some .int), g_co_X7_addBy, 7)
def g_co_X7_remove : List (Option (Instr × Nat)) := [some (.aload_n 0, 1), some (.iload_n 1, 1), some (.invokevirtual 135, 3), none, none, some (.astore_n 2, 1), some (.aload_n 0, 1), some (.aload_n 2, 1), some (.invokevirtual 272, 3), none, none, some (.aload_n 0, 1), some (.getfield 25, 3), none, none, some (.aload_n 0, 1), some (.getfield 10, 3), none, none, some (.invokevirtual 260, 3), none, none, some (.aload_n 2, 1), some (.getfield 144, 3), none, none, some (.istore_n 3, 1), some (.aload_n 2, 1), some (.iconst 0, 1), some (.putfield 144, 3), none, none, some (.iload_n 3, 1), some (.ireturn, 1)]
def g_m_X7_remove : ri_Mt := (RX7, yX7_remove, cX7_remove, 4, (some .int), g_co_X7_remove, 7)
def g_co_X7_lock : List (Option (Instr × Nat)) := [some (.aload_n 0, 1), some (.iload_n 1, 1), some (.invokevirtual 135, 3), none, none, some (.astore_n 3, 1), some (.aload_n 0, 1), some (.getfield 25, 3), none, none, some (.aload_n 0, 1), some (.getfield 10, 3), none, none, some (.invokevirtual 260, 3), none, none, some (.aload_n 3, 1), some (.getfield 153, 3), none, none, some (.istore 4, 2), none, some (.aload_n 3, 1), some (.iload_n 2, 1), some (.putfield 153, 3), none, none, some (.iload 4, 2), none, some (.ireturn, 1)]
def g_m_X7_lock : ri_Mt := (RX7, yX7_lock, cX7_lock, 5, (some .boolean), g_co_X7_lock, 7)
def g_co_X7_resizeReason : List (Option (Instr × Nat)) := [some (.aload_n 0, 1), some (.getfield 10, 3), none, none, some (.aload_n 0, 1), some (.iload_n 1, 1), some (.invokevirtual 135, 3), none, none, some (.iload_n 2, 1), some (.invokevirtual 276, 3), none, none, some (.ireturn, 1)]
def g_m_X7_resizeReason : ri_Mt := (RX7, yX7_resizeReason, cX7_resizeReason, 3, (some .int), g_co_X7_resizeReason, 7)
def g_co_X7_resize : List (Option (Instr × Nat)) := [some (.aload_n 0, 1), some (.iload_n 1, 1), some (.invokevirtual 135, 3), none, none, some (.astore_n 3, 1), some (.aload_n 0, 1), some (.aload_n 3, 1), some (.iload_n 2, 1), some (.invokevirtual 279, 3), none, none, some (.aload_n 0, 1), some (.getfield 25, 3), none, none, some (.aload_n 0, 1), some (.getfield 10, 3), none, none, some (.invokevirtual 260, 3), none, none, some (.aload_n 3, 1), some (.getfield 144, 3), none, none, some (.istore 4, 2), none, some (.aload_n 0, 1), some (.getfield 10, 3), none, none, some (.aload_n 3, 1), some (.iload_n 2, 1), some (.invokevirtual 283, 3), none, none, some (.iload 4, 2), none, some (.ireturn, 1)]
def g_m_X7_resize : ri_Mt := (RX7, yX7_resize, cX7_resize, 5, (some .int), g_co_X7_resize, 7)
def g_co_X7_roundUp : List (Option (Instr × Nat)) := [some (.aload_n 0, 1), some (.iload_n 1, 1), some (.invokevirtual 135, 3), none, none, some (.astore_n 2, 1), some (.aload_n 2, 1), some (.getfield 144, 3), none, none, some (.aload_n 0, 1), some (.getfield 10, 3), none, none, some (.getfield 100, 3), none, none, some (.invokestatic 286, 3), none, none, some (.istore_n 3, 1), some (.aload_n 0, 1), some (.aload_n 2, 1), some (.iload_n 3, 1), some (.invokevirtual 279, 3), none, none, some (.aload_n 0, 1), some (.getfield 25, 3), none, none, some (.aload_n 0, 1), some (.getfield 10, 3), none, none, some (.invokevirtual 260, 3), none, none, some (.aload_n 0, 1), some (.getfield 10, 3), none, none, some (.aload_n 2, 1), some (.iload_n 3, 1), some (.invokevirtual 283, 3), none, none, some (.iload_n 3, 1), some (.ireturn, 1)]
def g_m_X7_roundUp : ri_Mt := (RX7, yX7_roundUp, cX7_roundUp, 4, (some .int), g_co_X7_roundUp, 7)
def g_co_X7_setMinimum : List (Option (Instr × Nat)) := [some (.aload_n 0, 1), some (.iload_n 1, 1), some (.invokevirtual 135, 3), none, none, some (.astore_n 3, 1), some (.iload_n 2, 1), some (.iconst 1, 1), some (.if_icmp .lt 11, 3), none, none, some (.iload_n 2, 1), some (.aload_n 3, 1), some (.getfield 144, 3), none, none, some (.if_icmp .le 14, 3), none, none, some (.new 128, 3), none, none, some (.dup, 1), some (.ldc_w 289, 3), none, none, some (.invokespecial 132, 3), none, none, some (.athrow, 1), some (.aload_n 0, 1), some (.getfield 25, 3), none, none, some (.aload_n 0, 1), some (.getfield 10, 3), none, none, some (.invokevirtual 260, 3), none, none, some (.aload_n 3, 1), some (.getfield 147, 3), none, none, some (.istore 4, 2), none, some (.aload_n 3, 1), some (.iload_n 2, 1), some (.putfield 147, 3), none, none, some (.iload 4, 2), none, some (.ireturn, 1)]
def g_m_X7_setMinimum : ri_Mt := (RX7, yX7_setMinimum, cX7_setMinimum, 5, (some .int), g_co_X7_setMinimum, 7)
def g_co_X7_growsTo : List (Option (Instr × Nat)) := [some (.aload_n 0, 1), some (.iload_n 1, 1), some (.invokevirtual 135, 3), none, none, some (.astore_n 2, 1), some (.aload_n 2, 1), some (.getfield 144, 3), none, none, some (.istore_n 3, 1), some (.iload_n 3, 1), some (.sipush 600, 3), none, none, some (.if_icmp .ge 23, 3), none, none, some (.aload_n 0, 1), some (.getfield 10, 3), none, none, some (.aload_n 2, 1), some (.iload_n 3, 1), some (.iconst 1, 1), some (.iadd, 1), some (.invokevirtual 291, 3), none, none, some (.ifCond .ne 9, 3), none, none, some (.iinc 3 1, 3), none, none, some (.goto (-24), 3), none, none, some (.iload_n 3, 1), some (.ireturn, 1)]
def g_m_X7_growsTo : ri_Mt := (RX7, yX7_growsTo, cX7_growsTo, 4, (some .int), g_co_X7_growsTo, 7)
def g_co_X7_set : List (Option (Instr × Nat)) := [some (.iload_n 1, 1), some (.iconst 3, 1), some (.if_icmp .eq 18, 3), none, none, some (.iload_n 1, 1), some (.iconst 4, 1), some (.if_icmp .eq 13, 3), none, none, some (.new 128, 3), none, none, some (.dup, 1), some (.ldc 130, 2), none, some (.invokespecial 132, 3), none, none, some (.athrow, 1), some (.iload_n 2, 1), some (.iconst 1, 1), some (.if_icmp .lt 19, 3), none, none, some (.iload_n 2, 1), some (.iload_n 1, 1), some (.iconst 3, 1), some (.if_icmp .ne 8, 3), none, none, some (.bipush 32, 2), none, some (.goto 5, 3), none, none, some (.bipush 16, 2), none, some (.if_icmp .le 14, 3), none, none, some (.new 128, 3), none, none, some (.dup, 1), some (.ldc_w 294, 3), none, none, some (.invokespecial 132, 3), none, none, some (.athrow, 1), some (.aload_n 0, 1), some (.getfield 25, 3), none, none, some (.aload_n 0, 1), some (.getfield 10, 3), none, none, some (.invokevirtual 260, 3), none, none, some (.iload_n 1, 1), some (.iconst 3, 1), some (.if_icmp .ne 13, 3), none, none, some (.aload_n 0, 1), some (.getfield 10, 3), none, none, some (.getfield 100, 3), none, none, some (.goto 10, 3), none, none, some (.aload_n 0, 1), some (.getfield 10, 3), none, none, some (.getfield 103, 3), none, none, some (.istore_n 3, 1), some (.iload_n 1, 1), some (.iconst 3, 1), some (.if_icmp .ne 14, 3), none, none, some (.aload_n 0, 1), some (.getfield 10, 3), none, none, some (.iload_n 2, 1), some (.putfield 100, 3), none, none, some (.goto 11, 3), none, none, some (.aload_n 0, 1), some (.getfield 10, 3), none, none, some (.iload_n 2, 1), some (.putfield 103, 3), none, none, some (.iload_n 3, 1), some (.ireturn, 1)]
def g_m_X7_set : ri_Mt := (RX7, yX7_set, cX7_set, 4, (some .int), g_co_X7_set, 7)
def g_co_X7_split : List (Option (Instr × Nat)) := [some (.aload_n 0, 1), some (.iload_n 1, 1), some (.invokevirtual 135, 3), none, none, some (.astore_n 3, 1), some (.iload_n 2, 1), some (.aload_n 3, 1), some (.getfield 147, 3), none, none, some (.if_icmp .lt 11, 3), none, none, some (.iload_n 2, 1), some (.aload_n 3, 1), some (.getfield 144, 3), none, none, some (.if_icmp .lt 14, 3), none, none, some (.new 128, 3), none, none, some (.dup, 1), some (.ldc_w 296, 3), none, none, some (.invokespecial 132, 3), none, none, some (.athrow, 1), some (.aload_n 0, 1), some (.aload_n 3, 1), some (.invokevirtual 272, 3), none, none, some (.aload_n 0, 1), some (.getfield 10, 3), none, none, some (.aload_n 3, 1), some (.getfield 139, 3), none, none, some (.iload_n 2, 1), some (.iadd, 1), some (.invokevirtual 298, 3), none, none, some (.ifCond .ne 14, 3), none, none, some (.new 267, 3), none, none, some (.dup, 1), some (.ldc_w 301, 3), none, none, some (.invokespecial 271, 3), none, none, some (.athrow, 1), some (.aload_n 0, 1), some (.invokevirtual 257, 3), none, none, some (.aload_n 0, 1), some (.getfield 25, 3), none, none, some (.aload_n 0, 1), some (.getfield 10, 3), none, none, some (.invokevirtual 260, 3), none, none, some (.aload_n 3, 1), some (.getfield 144, 3), none, none, some (.iload_n 2, 1), some (.isub, 1), some (.istore 4, 2), none, some (.aload_n 3, 1), some (.iload_n 2, 1), some (.putfield 144, 3), none, none, some (.aload_n 0, 1), some (.getfield 10, 3), none, none, some (.aload_n 3, 1), some (.getfield 139, 3), none, none, some (.iload_n 2, 1), some (.iadd, 1), some (.iload 4, 2), none, some (.aload_n 3, 1), some (.getfield 150, 3), none, none, some (.iconst 1, 1), some (.invokevirtual 263, 3), none, none, some (.ireturn, 1)]
def g_m_X7_split : ri_Mt := (RX7, yX7_split, cX7_split, 5, (some .int), g_co_X7_split, 7)
def g_co_X7_join : List (Option (Instr × Nat)) := [some (.aload_n 0, 1), some (.iload_n 1, 1), some (.invokevirtual 135, 3), none, none, some (.astore_n 2, 1), some (.aload_n 0, 1), some (.getfield 10, 3), none, none, some (.aload_n 2, 1), some (.getfield 139, 3), none, none, some (.invokevirtual 187, 3), none, none, some (.astore_n 3, 1), some (.aload_n 3, 1), some (.ifnull 14, 3), none, none, some (.aload_n 3, 1), some (.getfield 139, 3), none, none, some (.aload_n 2, 1), some (.invokevirtual 303, 3), none, none, some (.if_icmp .eq 14, 3), none, none, some (.new 267, 3), none, none, some (.dup, 1), some (.ldc_w 306, 3), none, none, some (.invokespecial 271, 3), none, none, some (.athrow, 1), some (.aload_n 3, 1), some (.getfield 150, 3), none, none, some (.aload_n 2, 1), some (.getfield 150, 3), none, none, some (.if_icmp .eq 14, 3), none, none, some (.new 267, 3), none, none, some (.dup, 1), some (.ldc_w 308, 3), none, none, some (.invokespecial 271, 3), none, none, some (.athrow, 1), some (.aload_n 0, 1), some (.aload_n 2, 1), some (.invokevirtual 272, 3), none, none, some (.aload_n 0, 1), some (.aload_n 3, 1), some (.invokevirtual 272, 3), none, none, some (.aload_n 0, 1), some (.getfield 25, 3), none, none, some (.aload_n 0, 1), some (.getfield 10, 3), none, none, some (.invokevirtual 260, 3), none, none, some (.aload_n 2, 1), some (.getfield 144, 3), none, none, some (.aload_n 3, 1), some (.getfield 144, 3), none, none, some (.iadd, 1), some (.istore 4, 2), none, some (.aload_n 3, 1), some (.iconst 0, 1), some (.putfield 144, 3), none, none, some (.aload_n 0, 1), some (.getfield 10, 3), none, none, some (.aload_n 2, 1), some (.iload 4, 2), none, some (.invokevirtual 283, 3), none, none, some (.aload_n 3, 1), some (.getfield 190, 3), none, none, some (.ireturn, 1)]
def g_m_X7_join : ri_Mt := (RX7, yX7_join, cX7_join, 5, (some .int), g_co_X7_join, 7)
def g_co_X7_shrinkAll : List (Option (Instr × Nat)) := [some (.aload_n 0, 1), some (.getfield 25, 3), none, none, some (.aload_n 0, 1), some (.getfield 10, 3), none, none, some (.invokevirtual 260, 3), none, none, some (.iconst 0, 1), some (.istore_n 1, 1), some (.aload_n 0, 1), some (.getfield 10, 3), none, none, some (.getfield 203, 3), none, none, some (.astore_n 2, 1), some (.aload_n 2, 1), some (.arraylength, 1), some (.istore_n 3, 1), some (.iconst 0, 1), some (.istore 4, 2), none, some (.iload 4, 2), none, some (.iload_n 3, 1), some (.if_icmp .ge 51, 3), none, none, some (.aload_n 2, 1), some (.iload 4, 2), none, some (.aaload, 1), some (.astore 5, 2), none, some (.aload_n 0, 1), some (.getfield 10, 3), none, none, some (.aload 5, 2), none, some (.invokevirtual 207, 3), none, none, some (.ifCond .eq 27, 3), none, none, some (.iload_n 1, 1), some (.aload 5, 2), none, some (.getfield 144, 3), none, none, some (.aload 5, 2), none, some (.getfield 147, 3), none, none, some (.isub, 1), some (.iadd, 1), some (.istore_n 1, 1), some (.aload 5, 2), none, some (.aload 5, 2), none, some (.getfield 147, 3), none, none, some (.putfield 144, 3), none, none, some (.iinc 4 1, 3), none, none, some (.goto (-51), 3), none, none, some (.iload_n 1, 1), some (.ireturn, 1)]
def g_m_X7_shrinkAll : ri_Mt := (RX7, yX7_shrinkAll, cX7_shrinkAll, 6, (some .int), g_co_X7_shrinkAll, 7)
def g_co_X7_wipe : List (Option (Instr × Nat)) := [some (.aload_n 0, 1), some (.getfield 25, 3), none, none, some (.aload_n 0, 1), some (.getfield 10, 3), none, none, some (.invokevirtual 260, 3), none, none, some (.aload_n 0, 1), some (.getfield 10, 3), none, none, some (.invokevirtual 310, 3), none, none, some (.ireturn, 1)]
def g_m_X7_wipe : ri_Mt := (RX7, yX7_wipe, cX7_wipe, 1, (some .int), g_co_X7_wipe, 7)
def g_co_X7_moveReason : List (Option (Instr × Nat)) := [some (.aload_n 0, 1), some (.getfield 10, 3), none, none, some (.aload_n 0, 1), some (.iload_n 1, 1), some (.invokevirtual 135, 3), none, none, some (.iload_n 2, 1), some (.aload_n 0, 1), some (.getfield 10, 3), none, none, some (.getfield 103, 3), none, none, some (.invokevirtual 313, 3), none, none, some (.ireturn, 1)]
def g_m_X7_moveReason : ri_Mt := (RX7, yX7_moveReason, cX7_moveReason, 3, (some .int), g_co_X7_moveReason, 7)
def g_co_X7_stepsFor : List (Option (Instr × Nat)) := [some (.aload_n 0, 1), some (.getfield 10, 3), none, none, some (.aload_n 0, 1), some (.iload_n 1, 1), some (.invokevirtual 135, 3), none, none, some (.iload_n 2, 1), some (.aload_n 0, 1), some (.getfield 10, 3), none, none, some (.getfield 103, 3), none, none, some (.invokevirtual 317, 3), none, none, some (.ireturn, 1)]
def g_m_X7_stepsFor : ri_Mt := (RX7, yX7_stepsFor, cX7_stepsFor, 3, (some .int), g_co_X7_stepsFor, 7)
def g_co_X7_bestChunk : List (Option (Instr × Nat)) := [some (.aload_n 0, 1), some (.iload_n 1, 1), some (.invokevirtual 135, 3), none, none, some (.astore_n 3, 1), some (.iconst (-1), 1), some (.istore 4, 2), none, some (.iconst 0, 1), some (.istore 5, 2), none, some (.iconst 1, 1), some (.istore 6, 2), none, some (.iload 6, 2), none, some (.bipush 16, 2), none, some (.if_icmp .gt 47, 3), none, none, some (.aload_n 0, 1), some (.getfield 10, 3), none, none, some (.aload_n 3, 1), some (.iload_n 2, 1), some (.iload 6, 2), none, some (.invokevirtual 317, 3), none, none, some (.istore 7, 2), none, some (.iload 7, 2), none, some (.ifCond .lt 23, 3), none, none, some (.iload 4, 2), none, some (.ifCond .lt 10, 3), none, none, some (.iload 7, 2), none, some (.iload 5, 2), none, some (.if_icmp .ge 11, 3), none, none, some (.iload 6, 2), none, some (.istore 4, 2), none, some (.iload 7, 2), none, some (.istore 5, 2), none, some (.iinc 6 1, 3), none, none, some (.goto (-48), 3), none, none, some (.iload 4, 2), none, some (.ireturn, 1)]
def g_m_X7_bestChunk : ri_Mt := (RX7, yX7_bestChunk, cX7_bestChunk, 8, (some .int), g_co_X7_bestChunk, 7)
def g_co_X7_leftmost : List (Option (Instr × Nat)) := [some (.aload_n 0, 1), some (.getfield 10, 3), none, none, some (.aload_n 0, 1), some (.iload_n 1, 1), some (.invokevirtual 135, 3), none, none, some (.invokevirtual 320, 3), none, none, some (.ireturn, 1)]
def g_m_X7_leftmost : ri_Mt := (RX7, yX7_leftmost, cX7_leftmost, 2, (some .int), g_co_X7_leftmost, 7)
def g_co_X7_rightmost : List (Option (Instr × Nat)) := [some (.aload_n 0, 1), some (.getfield 10, 3), none, none, some (.aload_n 0, 1), some (.iload_n 1, 1), some (.invokevirtual 135, 3), none, none, some (.invokevirtual 323, 3), none, none, some (.ireturn, 1)]
def g_m_X7_rightmost : ri_Mt := (RX7, yX7_rightmost, cX7_rightmost, 2, (some .int), g_co_X7_rightmost, 7)
def g_co_X7_begin : List (Option (Instr × Nat)) := [some (.aload_n 0, 1), some (.iload_n 1, 1), some (.invokevirtual 135, 3), none, none, some (.astore_n 3, 1), some (.aload_n 0, 1), some (.getfield 10, 3), none, none, some (.aload_n 3, 1), some (.iload_n 2, 1), some (.aload_n 0, 1), some (.getfield 10, 3), none, none, some (.getfield 103, 3), none, none, some (.invokevirtual 313, 3), none, none, some (.ifCond .eq 14, 3), none, none, some (.new 267, 3), none, none, some (.dup, 1), some (.ldc_w 326, 3), none, none, some (.invokespecial 271, 3), none, none, some (.athrow, 1), some (.aload_n 0, 1), some (.getfield 25, 3), none, none, some (.aload_n 0, 1), some (.getfield 10, 3), none, none, some (.invokevirtual 260, 3), none, none, some (.aload_n 0, 1), some (.getfield 10, 3), none, none, some (.aload_n 3, 1), some (.iload_n 2, 1), some (.invokevirtual 328, 3), none, none, some (.aload_n 0, 1), some (.getfield 10, 3), none, none, some (.getfield 331, 3), none, none, some (.invokevirtual 335, 3), none, none, some (.ireturn, 1)]
def g_m_X7_begin : ri_Mt := (RX7, yX7_begin, cX7_begin, 4, (some .int), g_co_X7_begin, 7)
def g_co_X7_run : List (Option (Instr × Nat)) := [some (.iload_n 1, 1), some (.iconst 1, 1), some (.if_icmp .lt 10, 3), none, none, some (.iload_n 1, 1), some (.sipush 999, 3), none, none, some (.if_icmp .le 14, 3), none, none, some (.new 128, 3), none, none, some (.dup, 1), some (.ldc_w 340, 3), none, none, some (.invokespecial 132, 3), none, none, some (.athrow, 1), some (.aload_n 0, 1), some (.invokevirtual 342, 3), none, none, some (.aload_n 0, 1), some (.getfield 25, 3), none, none, some (.aload_n 0, 1), some (.getfield 10, 3), none, none, some (.invokevirtual 260, 3), none, none, some (.aload_n 0, 1), some (.getfield 10, 3), none, none, some (.iload_n 1, 1), some (.invokevirtual 345, 3), none, none, some (.ireturn, 1)]
def g_m_X7_run : ri_Mt := (RX7, yX7_run, cX7_run, 2, (some .int), g_co_X7_run, 7)
def g_co_X7_tear : List (Option (Instr × Nat)) := [some (.aload_n 0, 1), some (.invokevirtual 342, 3), none, none, some (.aload_n 0, 1), some (.getfield 25, 3), none, none, some (.aload_n 0, 1), some (.getfield 10, 3), none, none, some (.invokevirtual 260, 3), none, none, some (.aload_n 0, 1), some (.getfield 10, 3), none, none, some (.invokevirtual 348, 3), none, none, some (.ireturn, 1)]
def g_m_X7_tear : ri_Mt := (RX7, yX7_tear, cX7_tear, 1, (some .int), g_co_X7_tear, 7)
def g_co_X7_turnBack : List (Option (Instr × Nat)) := [some (.aload_n 0, 1), some (.invokevirtual 342, 3), none, none, some (.aload_n 0, 1), some (.getfield 10, 3), none, none, some (.getfield 331, 3), none, none, some (.getfield 351, 3), none, none, some (.ifCond .eq 14, 3), none, none, some (.new 267, 3), none, none, some (.dup, 1), some (.ldc_w 354, 3), none, none, some (.invokespecial 271, 3), none, none, some (.athrow, 1), some (.aload_n 0, 1), some (.getfield 25, 3), none, none, some (.aload_n 0, 1), some (.getfield 10, 3), none, none, some (.invokevirtual 260, 3), none, none, some (.aload_n 0, 1), some (.getfield 10, 3), none, none, some (.invokevirtual 356, 3), none, none, some (.aload_n 0, 1), some (.getfield 10, 3), none, none, some (.getfield 331, 3), none, none, some (.invokevirtual 335, 3), none, none, some (.ireturn, 1)]
def g_m_X7_turnBack : ri_Mt := (RX7, yX7_turnBack, cX7_turnBack, 1, (some .int), g_co_X7_turnBack, 7)
def g_co_X7_move : List (Option (Instr × Nat)) := [some (.iload_n 1, 1), some (.ifCond .lt 9, 3), none, none, some (.iload_n 1, 1), some (.bipush 8, 2), none, some (.if_icmp .le 13, 3), none, none, some (.new 128, 3), none, none, some (.dup, 1), some (.ldc 130, 2), none, some (.invokespecial 132, 3), none, none, some (.athrow, 1), some (.aload_n 0, 1), some (.getfield 10, 3), none, none, some (.getfield 331, 3), none, none, some (.astore_n 2, 1), some (.aload_n 2, 1), some (.invokevirtual 359, 3), none, none, some (.ifCond .ne 5, 3), none, none, some (.iconst (-1), 1), some (.ireturn, 1), some (.iload_n 1, 1), some (.tableswitch 86 0 7 #[46, 51, 56, 61, 66, 71, 76, 81], 46), none, none, none, none, none, none, none, none, none, none, none, none, none, none, none, none, none, none, none, none, none, none, none, none, none, none, none, none, none, none, none, none, none, none, none, none, none, none, none, none, none, none, none, none, none, some (.aload_n 2, 1), some (.getfield 362, 3), none, none, some (.ireturn, 1), some (.aload_n 2, 1), some (.getfield 365, 3), none, none, some (.ireturn, 1), some (.aload_n 2, 1), some (.getfield 368, 3), none, none, some (.ireturn, 1), some (.aload_n 2, 1), some (.getfield 371, 3), none, none, some (.ireturn, 1), some (.aload_n 2, 1), some (.getfield 374, 3), none, none, some (.ireturn, 1), some (.aload_n 2, 1), some (.getfield 375, 3), none, none, some (.ireturn, 1), some (.aload_n 2, 1), some (.getfield 378, 3), none, none, some (.ireturn, 1), some (.aload_n 2, 1), some (.invokevirtual 335, 3), none, none, some (.ireturn, 1), some (.aload_n 2, 1), some (.getfield 351, 3), none, none, some (.ifCond .eq 7, 3), none, none, some (.iconst 1, 1), some (.goto 4, 3), none, none, some (.iconst 0, 1), some (.ireturn, 1)]
def g_m_X7_move : ri_Mt := (RX7, yX7_move, cX7_move, 3, (some .int), g_co_X7_move, 7)
def g_co_X7_blocksAt : List (Option (Instr × Nat)) := [some (.iload_n 1, 1), some (.ifCond .lt 8, 3), none, none, some (.iload_n 1, 1), some (.iconst 2, 1), some (.if_icmp .le 14, 3), none, none, some (.new 128, 3), none, none, some (.dup, 1), some (.ldc_w 381, 3), none, none, some (.invokespecial 132, 3), none, none, some (.athrow, 1), some (.aload_n 0, 1), some (.getfield 10, 3), none, none, some (.getfield 331, 3), none, none, some (.astore_n 2, 1), some (.aload_n 2, 1), some (.invokevirtual 359, 3), none, none, some (.ifCond .ne 5, 3), none, none, some (.iconst (-1), 1), some (.ireturn, 1), some (.aload_n 2, 1), some (.invokevirtual 383, 3), none, none, some (.istore_n 3, 1), some (.aload_n 2, 1), some (.getfield 351, 3), none, none, some (.ifCond .eq 10, 3), none, none, some (.aload_n 2, 1), some (.invokevirtual 386, 3), none, none, some (.goto 4, 3), none, none, some (.iconst 0, 1), some (.istore 4, 2), none, some (.iload_n 1, 1), some (.lookupswitch 33 #[(0, 28), (1, 30)], 28), none, none, none, none, none, none, none, none, none, none, none, none, none, none, none, none, none, none, none, none, none, none, none, none, none, none, none, some (.iload_n 3, 1), some (.ireturn, 1), some (.iload 4, 2), none, some (.ireturn, 1), some (.aload_n 2, 1), some (.getfield 389, 3), none, none, some (.iload_n 3, 1), some (.isub, 1), some (.iload 4, 2), none, some (.isub, 1), some (.ireturn, 1)]
def g_m_X7_blocksAt : ri_Mt := (RX7, yX7_blocksAt, cX7_blocksAt, 5, (some .int), g_co_X7_blocksAt, 7)
def g_co_X7_nextStep : List (Option (Instr × Nat)) := [some (.iload_n 1, 1), some (.ifCond .lt 8, 3), none, none, some (.iload_n 1, 1), some (.iconst 3, 1), some (.if_icmp .le 13, 3), none, none, some (.new 128, 3), none, none, some (.dup, 1), some (.ldc 130, 2), none, some (.invokespecial 132, 3), none, none, some (.athrow, 1), some (.aload_n 0, 1), some (.getfield 10, 3), none, none, some (.getfield 331, 3), none, none, some (.astore_n 2, 1), some (.aload_n 2, 1), some (.invokevirtual 359, 3), none, none, some (.ifCond .ne 5, 3), none, none, some (.iconst (-1), 1), some (.ireturn, 1), some (.iload_n 1, 1), some (.tableswitch 42 0 2 #[27, 32, 37], 27), none, none, none, none, none, none, none, none, none, none, none, none, none, none, none, none, none, none, none, none, none, none, none, none, none, none, some (.aload_n 2, 1), some (.invokevirtual 390, 3), none, none, some (.ireturn, 1), some (.aload_n 2, 1), some (.invokevirtual 393, 3), none, none, some (.ireturn, 1), some (.aload_n 2, 1), some (.invokevirtual 396, 3), none, none, some (.ireturn, 1), some (.aload_n 2, 1), some (.invokevirtual 386, 3), none, none, some (.ireturn, 1)]
def g_m_X7_nextStep : ri_Mt := (RX7, yX7_nextStep, cX7_nextStep, 3, (some .int), g_co_X7_nextStep, 7)
def g_co_X7_stepSector : List (Option (Instr × Nat)) := [some (.aload_n 0, 1), some (.getfield 10, 3), none, none, some (.getfield 331, 3), none, none, some (.astore_n 3, 1), some (.aload_n 3, 1), some (.invokevirtual 359, 3), none, none, some (.ifCond .eq 15, 3), none, none, some (.iload_n 1, 1), some (.ifCond .lt 11, 3), none, none, some (.iload_n 1, 1), some (.aload_n 3, 1), some (.invokevirtual 386, 3), none, none, some (.if_icmp .lt 5, 3), none, none, some (.iconst (-1), 1), some (.ireturn, 1), some (.aload_n 3, 1), some (.invokevirtual 396, 3), none, none, some (.iload_n 1, 1), some (.iadd, 1), some (.istore 4, 2), none, some (.iload_n 2, 1), some (.ifCond .eq 12, 3), none, none, some (.aload_n 3, 1), some (.iload 4, 2), none, some (.invokevirtual 399, 3), none, none, some (.goto 9, 3), none, none, some (.aload_n 3, 1), some (.iload 4, 2), none, some (.invokevirtual 402, 3), none, none, some (.ireturn, 1)]
def g_m_X7_stepSector : ri_Mt := (RX7, yX7_stepSector, cX7_stepSector, 5, (some .int), g_co_X7_stepSector, 7)
def g_co_X7_compact : List (Option (Instr × Nat)) := [some (.aload_n 0, 1), some (.invokevirtual 405, 3), none, none, some (.aload_n 0, 1), some (.getfield 25, 3), none, none, some (.aload_n 0, 1), some (.getfield 10, 3), none, none, some (.invokevirtual 260, 3), none, none, some (.aload_n 0, 1), some (.getfield 10, 3), none, none, some (.invokevirtual 408, 3), none, none, some (.ireturn, 1)]
def g_m_X7_compact : ri_Mt := (RX7, yX7_compact, cX7_compact, 1, (some .int), g_co_X7_compact, 7)
def g_co_X7_compactSteps : List (Option (Instr × Nat)) := [some (.aload_n 0, 1), some (.getfield 10, 3), none, none, some (.getfield 331, 3), none, none, some (.invokevirtual 359, 3), none, none, some (.ifCond .eq 5, 3), none, none, some (.iconst (-1), 1), some (.ireturn, 1), some (.aload_n 0, 1), some (.getfield 16, 3), none, none, some (.aload_n 0, 1), some (.getfield 10, 3), none, none, some (.invokevirtual 69, 3), none, none, some (.aload_n 0, 1), some (.getfield 16, 3), none, none, some (.invokevirtual 408, 3), none, none, some (.pop, 1), some (.aload_n 0, 1), some (.getfield 16, 3), none, none, some (.getfield 116, 3), none, none, some (.aload_n 0, 1), some (.getfield 10, 3), none, none, some (.getfield 116, 3), none, none, some (.isub, 1), some (.ireturn, 1)]
def g_m_X7_compactSteps : ri_Mt := (RX7, yX7_compactSteps, cX7_compactSteps, 1, (some .int), g_co_X7_compactSteps, 7)
def g_co_X7_cheapestMove : List (Option (Instr × Nat)) := [some (.iload_n 1, 1), some (.iconst 1, 1), some (.if_icmp .lt 10, 3), none, none, some (.iload_n 1, 1), some (.sipush 600, 3), none, none, some (.if_icmp .le 14, 3), none, none, some (.new 128, 3), none, none, some (.dup, 1), some (.ldc_w 296, 3), none, none, some (.invokespecial 132, 3), none, none, some (.athrow, 1), some (.aload_n 0, 1), some (.invokevirtual 405, 3), none, none, some (.aload_n 0, 1), some (.invokevirtual 106, 3), none, none, some (.invokevirtual 411, 3), none, none, some (.iload_n 1, 1), some (.if_icmp .lt 6, 3), none, none, some (.bipush (-2), 2), none, some (.ireturn, 1), some (.iconst (-1), 1), some (.istore_n 2, 1), some (.iconst 0, 1), some (.istore_n 3, 1), some (.aload_n 0, 1), some (.getfield 10, 3), none, none, some (.getfield 203, 3), none, none, some (.astore 4, 2), none, some (.aload 4, 2), none, some (.arraylength, 1), some (.istore 5, 2), none, some (.iconst 0, 1), some (.istore 6, 2), none, some (.iload 6, 2), none, some (.iload 5, 2), none, some (.if_icmp .ge 125, 3), none, none, some (.aload 4, 2), none, some (.iload 6, 2), none, some (.aaload, 1), some (.astore 7, 2), none, some (.aload_n 0, 1), some (.getfield 10, 3), none, none, some (.getfield 94, 3), none, none, some (.istore 8, 2), none, some (.aload_n 0, 1), some (.getfield 10, 3), none, none, some (.aload 7, 2), none, some (.invokevirtual 207, 3), none, none, some (.ifCond .eq 91, 3), none, none, some (.iload 8, 2), none, some (.aload_n 0, 1), some (.getfield 10, 3), none, none, some (.invokevirtual 197, 3), none, none, some (.if_icmp .ge 79, 3), none, none, some (.aload_n 0, 1), some (.getfield 10, 3), none, none, some (.aload 7, 2), none, some (.iload 8, 2), none, some (.iload_n 1, 1), some (.invokevirtual 414, 3), none, none, some (.ifCond .eq 24, 3), none, none, some (.aload_n 0, 1), some (.getfield 10, 3), none, none, some (.aload 7, 2), none, some (.iload 8, 2), none, some (.aload_n 0, 1), some (.getfield 10, 3), none, none, some (.getfield 103, 3), none, none, some (.invokevirtual 317, 3), none, none, some (.goto 4, 3), none, none, some (.iconst (-1), 1), some (.istore 9, 2), none, some (.iload 9, 2), none, some (.ifCond .lt 29, 3), none, none, some (.iload_n 2, 1), some (.ifCond .lt 9, 3), none, none, some (.iload 9, 2), none, some (.iload_n 3, 1), some (.if_icmp .ge 19, 3), none, none, some (.sipush 1000, 3), none, none, some (.aload 7, 2), none, some (.getfield 190, 3), none, none, some (.imul, 1), some (.iload 8, 2), none, some (.iadd, 1), some (.istore_n 2, 1), some (.iload 9, 2), none, some (.istore_n 3, 1), some (.iinc 8 1, 3), none, none, some (.goto (-97), 3), none, none, some (.iinc 6 1, 3), none, none, some (.goto (-126), 3), none, none, some (.iload_n 2, 1), some (.ireturn, 1)]
def g_m_X7_cheapestMove : ri_Mt := (RX7, yX7_cheapestMove, cX7_cheapestMove, 10, (some .int), g_co_X7_cheapestMove, 7)
def g_co_X7_printDisk : List (Option (Instr × Nat)) := [some (.aload_n 0, 1), some (.getfield 46, 3), none, none, some (.invokevirtual 80, 3), none, none, some (.aload_n 0, 1), some (.getfield 10, 3), none, none, some (.iconst (-1), 1), some (.invokevirtual 187, 3), none, none, some (.astore_n 1, 1), some (.iconst 0, 1), some (.istore_n 2, 1), some (.iload_n 2, 1), some (.bipush 8, 2), none, some (.if_icmp .ge 54, 3), none, none, some (.aload_n 1, 1), some (.ifnull 50, 3), none, none, some (.iload_n 2, 1), some (.ifCond .le 12, 3), none, none, some (.aload_n 0, 1), some (.getfield 46, 3), none, none, some (.bipush 32, 2), none, some (.invokevirtual 418, 3), none, none, some (.aload_n 0, 1), some (.getfield 46, 3), none, none, some (.aload_n 1, 1), some (.aload_n 0, 1), some (.getfield 10, 3), none, none, some (.aload_n 1, 1), some (.invokevirtual 421, 3), none, none, some (.invokevirtual 424, 3), none, none, some (.aload_n 0, 1), some (.getfield 10, 3), none, none, some (.aload_n 1, 1), some (.getfield 139, 3), none, none, some (.invokevirtual 187, 3), none, none, some (.astore_n 1, 1), some (.iinc 2 1, 3), none, none, some (.goto (-54), 3), none, none, some (.aload_n 0, 1), some (.getfield 46, 3), none, none, some (.getfield 428, 3), none, none, some (.ireturn, 1)]
def g_m_X7_printDisk : ri_Mt := (RX7, yX7_printDisk, cX7_printDisk, 3, (some .int), g_co_X7_printDisk, 7)
def g_co_X7_outputByte : List (Option (Instr × Nat)) := [some (.aload_n 0, 1), some (.getfield 46, 3), none, none, some (.iload_n 1, 1), some (.invokevirtual 429, 3), none, none, some (.ireturn, 1)]
def g_m_X7_outputByte : ri_Mt := (RX7, yX7_outputByte, cX7_outputByte, 2, (some .int), g_co_X7_outputByte, 7)
def g_co_X7_undo : List (Option (Instr × Nat)) := [some (.aload_n 0, 1), some (.getfield 25, 3), none, none, some (.aload_n 0, 1), some (.getfield 10, 3), none, none, some (.invokevirtual 432, 3), none, none, some (.ifCond .eq 13, 3), none, none, some (.aload_n 0, 1), some (.getfield 25, 3), none, none, some (.getfield 125, 3), none, none, some (.goto 4, 3), none, none, some (.iconst (-1), 1), some (.ireturn, 1)]
def g_m_X7_undo : ri_Mt := (RX7, yX7_undo, cX7_undo, 1, (some .int), g_co_X7_undo, 7)
def g_co_X7_saveState : List (Option (Instr × Nat)) := [some (.aload_n 0, 1), some (.getfield 19, 3), none, none, some (.aload_n 0, 1), some (.getfield 10, 3), none, none, some (.invokevirtual 69, 3), none, none, some (.aload_n 0, 1), some (.iconst 1, 1), some (.putfield 76, 3), none, none, some (.aload_n 0, 1), some (.getfield 10, 3), none, none, some (.invokevirtual 83, 3), none, none, some (.ireturn, 1)]
def g_m_X7_saveState : ri_Mt := (RX7, yX7_saveState, cX7_saveState, 1, (some .int), g_co_X7_saveState, 7)
def g_co_X7_restoreState : List (Option (Instr × Nat)) := [some (.aload_n 0, 1), some (.getfield 76, 3), none, none, some (.ifCond .ne 14, 3), none, none, some (.new 267, 3), none, none, some (.dup, 1), some (.ldc_w 435, 3), none, none, some (.invokespecial 271, 3), none, none, some (.athrow, 1), some (.aload_n 0, 1), some (.getfield 10, 3), none, none, some (.aload_n 0, 1), some (.getfield 19, 3), none, none, some (.invokevirtual 69, 3), none, none, some (.aload_n 0, 1), some (.getfield 25, 3), none, none, some (.invokevirtual 73, 3), none, none, some (.aload_n 0, 1), some (.getfield 10, 3), none, none, some (.invokevirtual 83, 3), none, none, some (.ireturn, 1)]
def g_m_X7_restoreState : ri_Mt := (RX7, yX7_restoreState, cX7_restoreState, 1, (some .int), g_co_X7_restoreState, 7)
def g_co_X7_gapsNow : List (Option (Instr × Nat)) := [some (.aload_n 0, 1), some (.getfield 32, 3), none, none, some (.aload_n 0, 1), some (.getfield 10, 3), none, none, some (.invokevirtual 437, 3), none, none, some (.aload_n 0, 1), some (.getfield 32, 3), none, none, some (.areturn, 1)]
def g_m_X7_gapsNow : ri_Mt := (RX7, yX7_gapsNow, cX7_gapsNow, 1, (some (.object "PartitionBench$Gaps")), g_co_X7_gapsNow, 7)
def g_co_X7_need : List (Option (Instr × Nat)) := [some (.aload_n 0, 1), some (.getfield 10, 3), none, none, some (.iload_n 1, 1), some (.invokevirtual 440, 3), none, none, some (.astore_n 2, 1), some (.aload_n 2, 1), some (.ifnonnull 14, 3), none, none, some (.new 442, 3), none, none, some (.dup, 1), some (.ldc_w 444, 3), none, none, some (.invokespecial 446, 3), none, none, some (.athrow, 1), some (.aload_n 2, 1), some (.areturn, 1)]
def g_m_X7_need : ri_Mt := (RX7, yX7_need, cX7_need, 3, (some (.object "PartitionBench$Part")), g_co_X7_need, 7)
def g_co_X7_needSector : List (Option (Instr × Nat)) := [some (.iload_n 1, 1), some (.ifCond .lt 14, 3), none, none, some (.iload_n 1, 1), some (.aload_n 0, 1), some (.getfield 10, 3), none, none, some (.getfield 93, 3), none, none, some (.if_icmp .lt 14, 3), none, none, some (.new 172, 3), none, none, some (.dup, 1), some (.ldc_w 447, 3), none, none, some (.invokespecial 176, 3), none, none, some (.athrow, 1), some (.return_, 1)]
def g_m_X7_needSector : ri_Mt := (RX7, yX7_needSector, cX7_needSector, 2, none, g_co_X7_needSector, 7)
def g_co_X7_needKindAndMinimum : List (Option (Instr × Nat)) := [some (.iload_n 1, 1), some (.ifCond .lt 9, 3), none, none, some (.iload_n 1, 1), some (.bipush 9, 2), none, some (.if_icmp .le 13, 3), none, none, some (.new 128, 3), none, none, some (.dup, 1), some (.ldc 210, 2), none, some (.invokespecial 132, 3), none, none, some (.athrow, 1), some (.iload_n 2, 1), some (.iconst 1, 1), some (.if_icmp .lt 8, 3), none, none, some (.iload_n 2, 1), some (.iload_n 3, 1), some (.if_icmp .le 14, 3), none, none, some (.new 128, 3), none, none, some (.dup, 1), some (.ldc_w 289, 3), none, none, some (.invokespecial 132, 3), none, none, some (.athrow, 1), some (.return_, 1)]
def g_m_X7_needKindAndMinimum : ri_Mt := (RX7, yX7_needKindAndMinimum, cX7_needKindAndMinimum, 4, none, g_co_X7_needKindAndMinimum, 7)
def g_co_X7_needRule : List (Option (Instr × Nat)) := [some (.iload_n 1, 1), some (.ifCond .lt 8, 3), none, none, some (.iload_n 1, 1), some (.iconst 2, 1), some (.if_icmp .le 14, 3), none, none, some (.new 128, 3), none, none, some (.dup, 1), some (.ldc_w 449, 3), none, none, some (.invokespecial 132, 3), none, none, some (.athrow, 1), some (.return_, 1)]
def g_m_X7_needRule : ri_Mt := (RX7, yX7_needRule, cX7_needRule, 2, none, g_co_X7_needRule, 7)
def g_co_X7_needNumberLeft : List (Option (Instr × Nat)) := [some (.aload_n 0, 1), some (.getfield 10, 3), none, none, some (.invokevirtual 83, 3), none, none, some (.bipush 8, 2), none, some (.if_icmp .lt 14, 3), none, none, some (.new 267, 3), none, none, some (.dup, 1), some (.ldc_w 451, 3), none, none, some (.invokespecial 271, 3), none, none, some (.athrow, 1), some (.return_, 1)]
def g_m_X7_needNumberLeft : ri_Mt := (RX7, yX7_needNumberLeft, cX7_needNumberLeft, 1, none, g_co_X7_needNumberLeft, 7)
def g_co_X7_needFree : List (Option (Instr × Nat)) := [some (.aload_n 0, 1), some (.getfield 10, 3), none, none, some (.aload_n 1, 1), some (.invokevirtual 207, 3), none, none, some (.ifCond .ne 14, 3), none, none, some (.new 267, 3), none, none, some (.dup, 1), some (.ldc_w 453, 3), none, none, some (.invokespecial 271, 3), none, none, some (.athrow, 1), some (.return_, 1)]
def g_m_X7_needFree : ri_Mt := (RX7, yX7_needFree, cX7_needFree, 2, none, g_co_X7_needFree, 7)
def g_co_X7_needSizeFor : List (Option (Instr × Nat)) := [some (.aload_n 0, 1), some (.getfield 10, 3), none, none, some (.aload_n 1, 1), some (.iload_n 2, 1), some (.invokevirtual 276, 3), none, none, some (.ifCond .eq 14, 3), none, none, some (.new 267, 3), none, none, some (.dup, 1), some (.ldc_w 455, 3), none, none, some (.invokespecial 271, 3), none, none, some (.athrow, 1), some (.return_, 1)]
def g_m_X7_needSizeFor : ri_Mt := (RX7, yX7_needSizeFor, cX7_needSizeFor, 3, none, g_co_X7_needSizeFor, 7)
def g_co_X7_needMove : List (Option (Instr × Nat)) := [some (.aload_n 0, 1), some (.getfield 10, 3), none, none, some (.getfield 331, 3), none, none, some (.invokevirtual 359, 3), none, none, some (.ifCond .ne 14, 3), none, none, some (.new 267, 3), none, none, some (.dup, 1), some (.ldc_w 457, 3), none, none, some (.invokespecial 271, 3), none, none, some (.athrow, 1), some (.return_, 1)]
def g_m_X7_needMove : ri_Mt := (RX7, yX7_needMove, cX7_needMove, 1, none, g_co_X7_needMove, 7)
def g_co_X7_needNoMove : List (Option (Instr × Nat)) := [some (.aload_n 0, 1), some (.getfield 10, 3), none, none, some (.getfield 331, 3), none, none, some (.invokevirtual 359, 3), none, none, some (.ifCond .eq 14, 3), none, none, some (.new 267, 3), none, none, some (.dup, 1), some (.ldc_w 459, 3), none, none, some (.invokespecial 271, 3), none, none, some (.athrow, 1), some (.return_, 1)]
def g_m_X7_needNoMove : ri_Mt := (RX7, yX7_needNoMove, cX7_needNoMove, 1, none, g_co_X7_needNoMove, 7)
def g_co_X7_meet : List (Option (Instr × Nat)) := [some (.lload_n 0, 1), some (.lload 4, 2), none, some (.lload 6, 2), none, some (.ladd, 1), some (.lcmp, 1), some (.ifCond .ge 16, 3), none, none, some (.lload 4, 2), none, some (.lload_n 0, 1), some (.lload_n 2, 1), some (.ladd, 1), some (.lcmp, 1), some (.ifCond .ge 7, 3), none, none, some (.iconst 1, 1), some (.goto 4, 3), none, none, some (.iconst 0, 1), some (.ireturn, 1)]
def g_m_X7_meet : ri_Mt := (RX7, yX7_meet, cX7_meet, 8, (some .boolean), g_co_X7_meet, 7)
def g_co_X7_roundedUp : List (Option (Instr × Nat)) := [some (.iload_n 1, 1), some (.iconst 1, 1), some (.if_icmp .ge 7, 3), none, none, some (.iload_n 0, 1), some (.goto 12, 3), none, none, some (.iload_n 0, 1), some (.iload_n 1, 1), some (.iadd, 1), some (.iconst 1, 1), some (.isub, 1), some (.iload_n 1, 1), some (.idiv, 1), some (.iload_n 1, 1), some (.imul, 1), some (.ireturn, 1)]
def g_m_X7_roundedUp : ri_Mt := (RX7, yX7_roundedUp, cX7_roundedUp, 2, (some .int), g_co_X7_roundedUp, 7)
def g_co_X7_roomBetween : List (Option (Instr × Nat)) := [some (.iconst 0, 1), some (.iload_n 1, 1), some (.iload_n 0, 1), some (.iload_n 2, 1), some (.invokestatic 286, 3), none, none, some (.isub, 1), some (.invokestatic 461, 3), none, none, some (.ireturn, 1)]
def g_m_X7_roomBetween : ri_Mt := (RX7, yX7_roomBetween, cX7_roomBetween, 3, (some .int), g_co_X7_roomBetween, 7)
def g_co_X7_distanceOf : List (Option (Instr × Nat)) := [some (.iload_n 0, 1), some (.iload_n 1, 1), some (.if_icmp .ge 9, 3), none, none, some (.iload_n 1, 1), some (.iload_n 0, 1), some (.isub, 1), some (.goto 6, 3), none, none, some (.iload_n 0, 1), some (.iload_n 1, 1), some (.isub, 1), some (.ireturn, 1)]
def g_m_X7_distanceOf : ri_Mt := (RX7, yX7_distanceOf, cX7_distanceOf, 2, (some .int), g_co_X7_distanceOf, 7)
def g_co_X7_stepsOfChunk : List (Option (Instr × Nat)) := [some (.iload_n 0, 1), some (.iload_n 1, 1), some (.if_icmp .le 7, 3), none, none, some (.iconst 2, 1), some (.goto 4, 3), none, none, some (.iconst 1, 1), some (.ireturn, 1)]
def g_m_X7_stepsOfChunk : ri_Mt := (RX7, yX7_stepsOfChunk, cX7_stepsOfChunk, 2, (some .int), g_co_X7_stepsOfChunk, 7)
def g_co_X7_stepsOfMove : List (Option (Instr × Nat)) := [some (.iload_n 1, 1), some (.iconst 1, 1), some (.if_icmp .ge 5, 3), none, none, some (.iconst 0, 1), some (.ireturn, 1), some (.iload_n 0, 1), some (.iload_n 1, 1), some (.irem, 1), some (.istore_n 3, 1), some (.iload_n 0, 1), some (.iload_n 1, 1), some (.idiv, 1), some (.iload_n 1, 1), some (.iload_n 2, 1), some (.invokestatic 466, 3), none, none, some (.imul, 1), some (.istore 4, 2), none, some (.iload_n 3, 1), some (.ifCond .ne 8, 3), none, none, some (.iload 4, 2), none, some (.goto 11, 3), none, none, some (.iload 4, 2), none, some (.iload_n 3, 1), some (.iload_n 2, 1), some (.invokestatic 466, 3), none, none, some (.iadd, 1), some (.ireturn, 1)]
def g_m_X7_stepsOfMove : ri_Mt := (RX7, yX7_stepsOfMove, cX7_stepsOfMove, 5, (some .int), g_co_X7_stepsOfMove, 7)
def g_co_X8_init : List (Option (Instr × Nat)) := [some (.aload_n 0, 1), some (.invokespecial 1, 3), none, none, some (.aload_n 0, 1), some (.sipush 688, 3), none, none, some (.newarray .int, 2), none, some (.putfield 7, 3), none, none, some (.aload_n 0, 1), some (.sipush 688, 3), none, none, some (.newarray .int, 2), none, some (.putfield 13, 3), none, none, some (.aload_n 0, 1), some (.sipush 688, 3), none, none, some (.newarray .int, 2), none, some (.putfield 16, 3), none, none, some (.aload_n 0, 1), some (.sipush 688, 3), none, none, some (.newarray .int, 2), none, some (.putfield 19, 3), none, none, some (.aload_n 0, 1), some (.sipush 6880, 3), none, none, some (.newarray .int, 2), none, some (.putfield 22, 3), none, none, some (.aload_n 0, 1), some (.sipush 301, 3), none, none, some (.newarray .int, 2), none, some (.putfield 25, 3), none, none, some (.aload_n 0, 1), some (.sipush 301, 3), none, none, some (.newarray .int, 2), none, some (.putfield 28, 3), none, none, some (.aload_n 0, 1), some (.sipush 500, 3), none, none, some (.newarray .int, 2), none, some (.putfield 31, 3), none, none, some (.aload_n 0, 1), some (.iconst (-1), 1), some (.putfield 34, 3), none, none, some (.aload_n 0, 1), some (.iconst 4, 1), some (.newarray .int, 2), none, some (.putfield 38, 3), none, none, some (.aload_n 0, 1), some (.bipush 8, 2), none, some (.newarray .int, 2), none, some (.putfield 41, 3), none, none, some (.aload_n 0, 1), some (.sipush 150, 3), none, none, some (.newarray .int, 2), none, some (.putfield 44, 3), none, none, some (.aload_n 0, 1), some (.bipush 64, 2), none, some (.invokevirtual 47, 3), none, none, some (.return_, 1)]
def g_m_X8_init : ri_Mt := (RX8, yX8_init, cX8_init, 1, none, g_co_X8_init, 8)
def g_co_X8_thrown : List (Option (Instr × Nat)) := [some (.aload_n 0, 1), some (.getfield 51, 3), none, none, some (.ireturn, 1)]
def g_m_X8_thrown : ri_Mt := (RX8, yX8_thrown, cX8_thrown, 1, (some .int), g_co_X8_thrown, 8)
def g_co_X8_inRange : List (Option (Instr × Nat)) := [some (.lload_n 0, 1), some (.lload_n 2, 1), some (.lcmp, 1), some (.ifCond .lt 14, 3), none, none, some (.lload_n 0, 1), some (.lload 4, 2), none, some (.lcmp, 1), some (.ifCond .gt 7, 3), none, none, some (.iconst 1, 1), some (.goto 4, 3), none, none, some (.iconst 0, 1), some (.ireturn, 1)]
def g_m_X8_inRange : ri_Mt := (RX8, yX8_inRange, cX8_inRange, 6, (some .boolean), g_co_X8_inRange, 8)
def g_co_X8_fails : List (Option (Instr × Nat)) := [some (.iload_n 1, 1), some (.ifCond .eq 8, 3), none, none, some (.aload_n 0, 1), some (.iload_n 2, 1), some (.putfield 51, 3), none, none, some (.iload_n 1, 1), some (.ireturn, 1)]
def g_m_X8_fails : ri_Mt := (RX8, yX8_fails, cX8_fails, 3, (some .boolean), g_co_X8_fails, 8)
def g_co_X8_copies : List (Option (Instr × Nat)) := [some (.iconst 0, 1), some (.istore 5, 2), none, some (.iload 5, 2), none, some (.iload 4, 2), none, some (.if_icmp .ge 21, 3), none, none, some (.aload_n 2, 1), some (.iload_n 3, 1), some (.iload 5, 2), none, some (.iadd, 1), some (.aload_n 0, 1), some (.iload_n 1, 1), some (.iload 5, 2), none, some (.iadd, 1), some (.iaload, 1), some (.iastore, 1), some (.iinc 5 1, 3), none, none, some (.goto (-22), 3), none, none, some (.return_, 1)]
def g_m_X8_copies : ri_Mt := (RX8, yX8_copies, cX8_copies, 6, none, g_co_X8_copies, 8)
def g_co_X8_clear : List (Option (Instr × Nat)) := [some (.iconst 0, 1), some (.istore_n 2, 1), some (.iload_n 2, 1), some (.sipush 688, 3), none, none, some (.if_icmp .ge 16, 3), none, none, some (.aload_n 0, 1), some (.getfield 7, 3), none, none, some (.iload_n 2, 1), some (.iconst 0, 1), some (.iastore, 1), some (.iinc 2 1, 3), none, none, some (.goto (-17), 3), none, none, some (.aload_n 0, 1), some (.getfield 7, 3), none, none, some (.iconst 0, 1), some (.iload_n 1, 1), some (.iastore, 1), some (.aload_n 0, 1), some (.getfield 7, 3), none, none, some (.iconst 3, 1), some (.iconst 1, 1), some (.iastore, 1), some (.aload_n 0, 1), some (.getfield 7, 3), none, none, some (.iconst 4, 1), some (.iconst 4, 1), some (.iastore, 1), some (.aload_n 0, 1), some (.getfield 7, 3), none, none, some (.bipush 16, 2), none, some (.iconst (-1), 1), some (.iastore, 1), some (.return_, 1)]
def g_m_X8_clear : ri_Mt := (RX8, yX8_clear, cX8_clear, 3, none, g_co_X8_clear, 8)
def g_co_X8_remembers : List (Option (Instr × Nat)) := [some (.aload_n 0, 1), some (.getfield 54, 3), none, none, some (.bipush 10, 2), none, some (.if_icmp .ne 31, 3), none, none, some (.aload_n 0, 1), some (.getfield 22, 3), none, none, some (.sipush 688, 3), none, none, some (.aload_n 0, 1), some (.getfield 22, 3), none, none, some (.iconst 0, 1), some (.sipush 6192, 3), none, none, some (.invokestatic 57, 3), none, none, some (.aload_n 0, 1), some (.dup, 1), some (.getfield 54, 3), none, none, some (.iconst 1, 1), some (.isub, 1), some (.putfield 54, 3), none, none, some (.aload_n 0, 1), some (.getfield 7, 3), none, none, some (.iconst 0, 1), some (.aload_n 0, 1), some (.getfield 22, 3), none, none, some (.sipush 688, 3), none, none, some (.aload_n 0, 1), some (.getfield 54, 3), none, none, some (.imul, 1), some (.sipush 688, 3), none, none, some (.invokestatic 57, 3), none, none, some (.aload_n 0, 1), some (.dup, 1), some (.getfield 54, 3), none, none, some (.iconst 1, 1), some (.iadd, 1), some (.putfield 54, 3), none, none, some (.return_, 1)]
def g_m_X8_remembers : ri_Mt := (RX8, yX8_remembers, cX8_remembers, 1, none, g_co_X8_remembers, 8)
def g_co_X8_begins : List (Option (Instr × Nat)) := [some (.aload_n 0, 1), some (.getfield 7, 3), none, none, some (.iconst 0, 1), some (.aload_n 0, 1), some (.getfield 16, 3), none, none, some (.iconst 0, 1), some (.sipush 688, 3), none, none, some (.invokestatic 57, 3), none, none, some (.return_, 1)]
def g_m_X8_begins : ri_Mt := (RX8, yX8_begins, cX8_begins, 1, none, g_co_X8_begins, 8)
def g_co_X8_ends : List (Option (Instr × Nat)) := [some (.aload_n 0, 1), some (.getfield 16, 3), none, none, some (.iconst 0, 1), some (.aload_n 0, 1), some (.getfield 7, 3), none, none, some (.iconst 0, 1), some (.sipush 688, 3), none, none, some (.invokestatic 57, 3), none, none, some (.return_, 1)]
def g_m_X8_ends : ri_Mt := (RX8, yX8_ends, cX8_ends, 1, none, g_co_X8_ends, 8)
def g_co_X8_of : List (Option (Instr × Nat)) := [some (.aload_n 0, 1), some (.getfield 7, 3), none, none, some (.bipush 24, 2), none, some (.bipush 8, 2), none, some (.iload_n 1, 1), some (.imul, 1), some (.iadd, 1), some (.iload_n 2, 1), some (.iadd, 1), some (.iaload, 1), some (.ireturn, 1)]
def g_m_X8_of : ri_Mt := (RX8, yX8_of, cX8_of, 3, (some .int), g_co_X8_of, 8)
def g_co_X8_put : List (Option (Instr × Nat)) := [some (.aload_n 0, 1), some (.getfield 7, 3), none, none, some (.bipush 24, 2), none, some (.bipush 8, 2), none, some (.iload_n 1, 1), some (.imul, 1), some (.iadd, 1), some (.iload_n 2, 1), some (.iadd, 1), some (.iload_n 3, 1), some (.iastore, 1), some (.return_, 1)]
def g_m_X8_put : ri_Mt := (RX8, yX8_put, cX8_put, 4, none, g_co_X8_put, 8)
def g_co_X8_stands : List (Option (Instr × Nat)) := [some (.iload_n 1, 1), some (.i2l, 1), some (.lconst 0, 1), some (.ldc2_w 61, 3), none, none, some (.invokestatic 63, 3), none, none, some (.ifCond .eq 17, 3), none, none, some (.aload_n 0, 1), some (.iload_n 1, 1), some (.iconst 0, 1), some (.invokevirtual 67, 3), none, none, some (.iconst 1, 1), some (.if_icmp .ne 7, 3), none, none, some (.iconst 1, 1), some (.goto 4, 3), none, none, some (.iconst 0, 1), some (.ireturn, 1)]
def g_m_X8_stands : ri_Mt := (RX8, yX8_stands, cX8_stands, 2, (some .boolean), g_co_X8_stands, 8)
def g_co_X8_partsMany : List (Option (Instr × Nat)) := [some (.iconst 0, 1), some (.istore_n 1, 1), some (.iconst 0, 1), some (.istore_n 2, 1), some (.iload_n 2, 1), some (.bipush 8, 2), none, some (.if_icmp .ge 18, 3), none, none, some (.iload_n 1, 1), some (.aload_n 0, 1), some (.iload_n 2, 1), some (.iconst 0, 1), some (.invokevirtual 67, 3), none, none, some (.iadd, 1), some (.istore_n 1, 1), some (.iinc 2 1, 3), none, none, some (.goto (-18), 3), none, none, some (.iload_n 1, 1), some (.ireturn, 1)]
def g_m_X8_partsMany : ri_Mt := (RX8, yX8_partsMany, cX8_partsMany, 3, (some .int), g_co_X8_partsMany, 8)
def g_co_X8_isMoving : List (Option (Instr × Nat)) := [some (.aload_n 0, 1), some (.getfield 7, 3), none, none, some (.bipush 16, 2), none, some (.iaload, 1), some (.iconst (-1), 1), some (.if_icmp .eq 7, 3), none, none, some (.iconst 1, 1), some (.goto 4, 3), none, none, some (.iconst 0, 1), some (.ireturn, 1)]
def g_m_X8_isMoving : ri_Mt := (RX8, yX8_isMoving, cX8_isMoving, 1, (some .boolean), g_co_X8_isMoving, 8)
def g_co_X8_isMoved : List (Option (Instr × Nat)) := [some (.aload_n 0, 1), some (.getfield 7, 3), none, none, some (.bipush 16, 2), none, some (.iaload, 1), some (.iload_n 1, 1), some (.if_icmp .ne 7, 3), none, none, some (.iconst 1, 1), some (.goto 4, 3), none, none, some (.iconst 0, 1), some (.ireturn, 1)]
def g_m_X8_isMoved : ri_Mt := (RX8, yX8_isMoved, cX8_isMoved, 2, (some .boolean), g_co_X8_isMoved, 8)
def g_co_X8_isFixed : List (Option (Instr × Nat)) := [some (.aload_n 0, 1), some (.iload_n 1, 1), some (.iconst 5, 1), some (.invokevirtual 67, 3), none, none, some (.iconst 1, 1), some (.if_icmp .eq 11, 3), none, none, some (.aload_n 0, 1), some (.iload_n 1, 1), some (.invokevirtual 71, 3), none, none, some (.ifCond .eq 7, 3), none, none, some (.iconst 1, 1), some (.goto 4, 3), none, none, some (.iconst 0, 1), some (.ireturn, 1)]
def g_m_X8_isFixed : ri_Mt := (RX8, yX8_isFixed, cX8_isFixed, 2, (some .boolean), g_co_X8_isFixed, 8)
def g_co_X8_up : List (Option (Instr × Nat)) := [some (.iload_n 0, 1), some (.iload_n 1, 1), some (.iadd, 1), some (.iconst 1, 1), some (.isub, 1), some (.iload_n 1, 1), some (.idiv, 1), some (.ireturn, 1)]
def g_m_X8_up : ri_Mt := (RX8, yX8_up, cX8_up, 2, (some .int), g_co_X8_up, 8)
def g_co_X8_numberOf : List (Option (Instr × Nat)) := [some (.sipush 1000, 3), none, none, some (.aload_n 0, 1), some (.iload_n 1, 1), some (.bipush 6, 2), none, some (.invokevirtual 67, 3), none, none, some (.iconst 1, 1), some (.iadd, 1), some (.imul, 1), some (.iload_n 2, 1), some (.iadd, 1), some (.ireturn, 1)]
def g_m_X8_numberOf : ri_Mt := (RX8, yX8_numberOf, cX8_numberOf, 3, (some .int), g_co_X8_numberOf, 8)
def g_co_X8_writes : List (Option (Instr × Nat)) := [some (.iload_n 2, 1), some (.istore_n 3, 1), some (.iload_n 3, 1), some (.aload_n 0, 1), some (.iload_n 1, 1), some (.iconst 2, 1), some (.invokevirtual 67, 3), none, none, some (.if_icmp .ge 31, 3), none, none, some (.aload_n 0, 1), some (.getfield 7, 3), none, none, some (.bipush 88, 2), none, some (.aload_n 0, 1), some (.iload_n 1, 1), some (.iconst 1, 1), some (.invokevirtual 67, 3), none, none, some (.iadd, 1), some (.iload_n 3, 1), some (.iadd, 1), some (.aload_n 0, 1), some (.iload_n 1, 1), some (.iload_n 3, 1), some (.invokevirtual 75, 3), none, none, some (.iastore, 1), some (.iinc 3 1, 3), none, none, some (.goto (-35), 3), none, none, some (.return_, 1)]
def g_m_X8_writes : ri_Mt := (RX8, yX8_writes, cX8_writes, 4, none, g_co_X8_writes, 8)
def g_co_X8_makes : List (Option (Instr × Nat)) := [some (.iconst 0, 1), some (.istore 5, 2), none, some (.aload_n 0, 1), some (.iload 5, 2), none, some (.iconst 0, 1), some (.invokevirtual 67, 3), none, none, some (.iconst 1, 1), some (.if_icmp .ne 9, 3), none, none, some (.iinc 5 1, 3), none, none, some (.goto (-14), 3), none, none, some (.aload_n 0, 1), some (.iload 5, 2), none, some (.iconst 0, 1), some (.iconst 1, 1), some (.invokevirtual 78, 3), none, none, some (.aload_n 0, 1), some (.iload 5, 2), none, some (.iconst 1, 1), some (.iload_n 1, 1), some (.invokevirtual 78, 3), none, none, some (.aload_n 0, 1), some (.iload 5, 2), none, some (.iconst 2, 1), some (.iload_n 2, 1), some (.invokevirtual 78, 3), none, none, some (.aload_n 0, 1), some (.iload 5, 2), none, some (.iconst 3, 1), some (.iload 4, 2), none, some (.invokevirtual 78, 3), none, none, some (.aload_n 0, 1), some (.iload 5, 2), none, some (.iconst 4, 1), some (.iload_n 3, 1), some (.invokevirtual 78, 3), none, none, some (.aload_n 0, 1), some (.iload 5, 2), none, some (.iconst 5, 1), some (.iconst 0, 1), some (.invokevirtual 78, 3), none, none, some (.aload_n 0, 1), some (.iload 5, 2), none, some (.bipush 6, 2), none, some (.aload_n 0, 1), some (.getfield 7, 3), none, none, some (.iconst 5, 1), some (.iaload, 1), some (.invokevirtual 78, 3), none, none, some (.aload_n 0, 1), some (.iload 5, 2), none, some (.bipush 7, 2), none, some (.iconst 0, 1), some (.invokevirtual 78, 3), none, none, some (.aload_n 0, 1), some (.getfield 7, 3), none, none, some (.iconst 5, 1), some (.dup2, 1), some (.iaload, 1), some (.iconst 1, 1), some (.iadd, 1), some (.iastore, 1), some (.aload_n 0, 1), some (.iload 5, 2), none, some (.iconst 0, 1), some (.invokevirtual 82, 3), none, none, some (.iload 5, 2), none, some (.ireturn, 1)]
def g_m_X8_makes : ri_Mt := (RX8, yX8_makes, cX8_makes, 6, (some .int), g_co_X8_makes, 8)
def g_co_X8_isUsable : List (Option (Instr × Nat)) := [some (.lload_n 3, 1), some (.lconst 1, 1), some (.lcmp, 1), some (.ifCond .lt 40, 3), none, none, some (.lload_n 1, 1), some (.aload_n 0, 1), some (.getfield 7, 3), none, none, some (.iconst 1, 1), some (.iaload, 1), some (.i2l, 1), some (.lcmp, 1), some (.ifCond .lt 28, 3), none, none, some (.lload_n 1, 1), some (.lload_n 3, 1), some (.ladd, 1), some (.aload_n 0, 1), some (.getfield 7, 3), none, none, some (.iconst 0, 1), some (.iaload, 1), some (.aload_n 0, 1), some (.getfield 7, 3), none, none, some (.iconst 2, 1), some (.iaload, 1), some (.isub, 1), some (.i2l, 1), some (.lcmp, 1), some (.ifCond .gt 7, 3), none, none, some (.iconst 1, 1), some (.goto 4, 3), none, none, some (.iconst 0, 1), some (.ireturn, 1)]
def g_m_X8_isUsable : ri_Mt := (RX8, yX8_isUsable, cX8_isUsable, 5, (some .boolean), g_co_X8_isUsable, 8)
def g_co_X8_meet : List (Option (Instr × Nat)) := [some (.lload_n 0, 1), some (.lload 4, 2), none, some (.lload 6, 2), none, some (.ladd, 1), some (.lcmp, 1), some (.ifCond .ge 16, 3), none, none, some (.lload 4, 2), none, some (.lload_n 0, 1), some (.lload_n 2, 1), some (.ladd, 1), some (.lcmp, 1), some (.ifCond .ge 7, 3), none, none, some (.iconst 1, 1), some (.goto 4, 3), none, none, some (.iconst 0, 1), some (.ireturn, 1)]
def g_m_X8_meet : ri_Mt := (RX8, yX8_meet, cX8_meet, 8, (some .boolean), g_co_X8_meet, 8)
def g_co_X8_isTaken : List (Option (Instr × Nat)) := [some (.iconst 0, 1), some (.istore 6, 2), none, some (.iconst 0, 1), some (.istore 7, 2), none, some (.iload 7, 2), none, some (.bipush 8, 2), none, some (.if_icmp .ge 63, 3), none, none, some (.iload 6, 2), none, some (.ifCond .ne 45, 3), none, none, some (.iload 7, 2), none, some (.iload 5, 2), none, some (.if_icmp .eq 42, 3), none, none, some (.aload_n 0, 1), some (.iload 7, 2), none, some (.iconst 0, 1), some (.invokevirtual 67, 3), none, none, some (.iconst 1, 1), some (.if_icmp .ne 31, 3), none, none, some (.lload_n 1, 1), some (.lload_n 3, 1), some (.aload_n 0, 1), some (.iload 7, 2), none, some (.iconst 1, 1), some (.invokevirtual 67, 3), none, none, some (.i2l, 1), some (.aload_n 0, 1), some (.iload 7, 2), none, some (.iconst 2, 1), some (.invokevirtual 67, 3), none, none, some (.i2l, 1), some (.invokestatic 86, 3), none, none, some (.ifCond .eq 7, 3), none, none, some (.iconst 1, 1), some (.goto 4, 3), none, none, some (.iconst 0, 1), some (.istore 6, 2), none, some (.iinc 7 1, 3), none, none, some (.goto (-64), 3), none, none, some (.iload 6, 2), none, some (.ireturn, 1)]
def g_m_X8_isTaken : ri_Mt := (RX8, yX8_isTaken, cX8_isTaken, 8, (some .boolean), g_co_X8_isTaken, 8)
def g_co_X8_scratchSize : List (Option (Instr × Nat)) := [some (.aload_n 0, 1), some (.getfield 7, 3), none, none, some (.bipush 19, 2), none, some (.iaload, 1), some (.aload_n 0, 1), some (.aload_n 0, 1), some (.getfield 7, 3), none, none, some (.bipush 16, 2), none, some (.iaload, 1), some (.iconst 2, 1), some (.invokevirtual 67, 3), none, none, some (.invokestatic 90, 3), none, none, some (.ireturn, 1)]
def g_m_X8_scratchSize : ri_Mt := (RX8, yX8_scratchSize, cX8_scratchSize, 1, (some .int), g_co_X8_scratchSize, 8)
def g_co_X8_isBusy : List (Option (Instr × Nat)) := [some (.aload_n 0, 1), some (.invokevirtual 95, 3), none, none, some (.ifCond .eq 9, 3), none, none, some (.lload_n 3, 1), some (.lconst 1, 1), some (.lcmp, 1), some (.ifCond .ge 5, 3), none, none, some (.iconst 0, 1), some (.ireturn, 1), some (.lload_n 1, 1), some (.lload_n 3, 1), some (.aload_n 0, 1), some (.getfield 7, 3), none, none, some (.bipush 18, 2), none, some (.iaload, 1), some (.i2l, 1), some (.aload_n 0, 1), some (.aload_n 0, 1), some (.getfield 7, 3), none, none, some (.bipush 16, 2), none, some (.iaload, 1), some (.iconst 2, 1), some (.invokevirtual 67, 3), none, none, some (.i2l, 1), some (.invokestatic 86, 3), none, none, some (.ifCond .ne 35, 3), none, none, some (.aload_n 0, 1), some (.getfield 7, 3), none, none, some (.bipush 20, 2), none, some (.iaload, 1), some (.iconst (-1), 1), some (.if_icmp .eq 28, 3), none, none, some (.lload_n 1, 1), some (.lload_n 3, 1), some (.aload_n 0, 1), some (.getfield 7, 3), none, none, some (.bipush 20, 2), none, some (.iaload, 1), some (.i2l, 1), some (.aload_n 0, 1), some (.invokevirtual 99, 3), none, none, some (.i2l, 1), some (.invokestatic 86, 3), none, none, some (.ifCond .eq 7, 3), none, none, some (.iconst 1, 1), some (.goto 4, 3), none, none, some (.iconst 0, 1), some (.ireturn, 1)]
def g_m_X8_isBusy : ri_Mt := (RX8, yX8_isBusy, cX8_isBusy, 5, (some .boolean), g_co_X8_isBusy, 8)
def g_co_X8_whyNot : List (Option (Instr × Nat)) := [some (.aload_n 0, 1), some (.iload_n 1, 1), some (.i2l, 1), some (.iload_n 2, 1), some (.i2l, 1), some (.invokevirtual 103, 3), none, none, some (.ifCond .ne 5, 3), none, none, some (.iconst 1, 1), some (.ireturn, 1), some (.iload_n 1, 1), some (.aload_n 0, 1), some (.getfield 7, 3), none, none, some (.iconst 3, 1), some (.iaload, 1), some (.irem, 1), some (.ifCond .eq 5, 3), none, none, some (.iconst 2, 1), some (.ireturn, 1), some (.aload_n 0, 1), some (.iload_n 1, 1), some (.i2l, 1), some (.iload_n 2, 1), some (.i2l, 1), some (.iconst (-1), 1), some (.invokevirtual 107, 3), none, none, some (.ifCond .eq 7, 3), none, none, some (.iconst 3, 1), some (.goto 19, 3), none, none, some (.aload_n 0, 1), some (.iload_n 1, 1), some (.i2l, 1), some (.iload_n 2, 1), some (.i2l, 1), some (.invokevirtual 111, 3), none, none, some (.ifCond .eq 7, 3), none, none, some (.iconst 4, 1), some (.goto 4, 3), none, none, some (.iconst 0, 1), some (.ireturn, 1)]
def g_m_X8_whyNot : ri_Mt := (RX8, yX8_whyNot, cX8_whyNot, 3, (some .int), g_co_X8_whyNot, 8)
def g_co_X8_isFree : List (Option (Instr × Nat)) := [some (.aload_n 0, 1), some (.iload_n 1, 1), some (.i2l, 1), some (.lconst 1, 1), some (.invokevirtual 103, 3), none, none, some (.ifCond .eq 28, 3), none, none, some (.aload_n 0, 1), some (.iload_n 1, 1), some (.i2l, 1), some (.lconst 1, 1), some (.iconst (-1), 1), some (.invokevirtual 107, 3), none, none, some (.ifCond .ne 17, 3), none, none, some (.aload_n 0, 1), some (.iload_n 1, 1), some (.i2l, 1), some (.lconst 1, 1), some (.invokevirtual 111, 3), none, none, some (.ifCond .ne 7, 3), none, none, some (.iconst 1, 1), some (.goto 4, 3), none, none, some (.iconst 0, 1), some (.ireturn, 1)]
def g_m_X8_isFree : ri_Mt := (RX8, yX8_isFree, cX8_isFree, 2, (some .boolean), g_co_X8_isFree, 8)
def g_co_X8_laysGaps : List (Option (Instr × Nat)) := [some (.aload_n 0, 1), some (.iconst 0, 1), some (.putfield 114, 3), none, none, some (.iconst 0, 1), some (.istore_n 1, 1), some (.iconst 0, 1), some (.istore_n 2, 1), some (.iload_n 2, 1), some (.aload_n 0, 1), some (.getfield 7, 3), none, none, some (.iconst 0, 1), some (.iaload, 1), some (.if_icmp .ge 74, 3), none, none, some (.aload_n 0, 1), some (.iload_n 2, 1), some (.invokevirtual 117, 3), none, none, some (.istore_n 3, 1), some (.iload_n 3, 1), some (.ifCond .eq 37, 3), none, none, some (.iload_n 1, 1), some (.ifCond .ne 33, 3), none, none, some (.aload_n 0, 1), some (.getfield 25, 3), none, none, some (.aload_n 0, 1), some (.getfield 114, 3), none, none, some (.iload_n 2, 1), some (.iastore, 1), some (.aload_n 0, 1), some (.getfield 28, 3), none, none, some (.aload_n 0, 1), some (.getfield 114, 3), none, none, some (.iconst 0, 1), some (.iastore, 1), some (.aload_n 0, 1), some (.dup, 1), some (.getfield 114, 3), none, none, some (.iconst 1, 1), some (.iadd, 1), some (.putfield 114, 3), none, none, some (.iload_n 3, 1), some (.ifCond .eq 18, 3), none, none, some (.aload_n 0, 1), some (.getfield 28, 3), none, none, some (.aload_n 0, 1), some (.getfield 114, 3), none, none, some (.iconst 1, 1), some (.isub, 1), some (.dup2, 1), some (.iaload, 1), some (.iconst 1, 1), some (.iadd, 1), some (.iastore, 1), some (.iload_n 3, 1), some (.istore_n 1, 1), some (.iinc 2 1, 3), none, none, some (.goto (-78), 3), none, none, some (.return_, 1)]
def g_m_X8_laysGaps : ri_Mt := (RX8, yX8_laysGaps, cX8_laysGaps, 4, none, g_co_X8_laysGaps, 8)
def g_co_X8_roomStart : List (Option (Instr × Nat)) := [some (.aload_n 0, 1), some (.getfield 25, 3), none, none, some (.iload_n 1, 1), some (.iaload, 1), some (.aload_n 0, 1), some (.getfield 7, 3), none, none, some (.iconst 3, 1), some (.iaload, 1), some (.invokestatic 120, 3), none, none, some (.aload_n 0, 1), some (.getfield 7, 3), none, none, some (.iconst 3, 1), some (.iaload, 1), some (.imul, 1), some (.ireturn, 1)]
def g_m_X8_roomStart : ri_Mt := (RX8, yX8_roomStart, cX8_roomStart, 2, (some .int), g_co_X8_roomStart, 8)
def g_co_X8_roomSize : List (Option (Instr × Nat)) := [some (.iconst 0, 1), some (.aload_n 0, 1), some (.getfield 25, 3), none, none, some (.iload_n 1, 1), some (.iaload, 1), some (.aload_n 0, 1), some (.getfield 28, 3), none, none, some (.iload_n 1, 1), some (.iaload, 1), some (.iadd, 1), some (.aload_n 0, 1), some (.iload_n 1, 1), some (.invokevirtual 123, 3), none, none, some (.isub, 1), some (.invokestatic 127, 3), none, none, some (.ireturn, 1)]
def g_m_X8_roomSize : ri_Mt := (RX8, yX8_roomSize, cX8_roomSize, 2, (some .int), g_co_X8_roomSize, 8)
def g_co_X8_mostRoom : List (Option (Instr × Nat)) := [some (.aload_n 0, 1), some (.invokevirtual 130, 3), none, none, some (.iconst 0, 1), some (.istore_n 1, 1), some (.iconst 0, 1), some (.istore_n 2, 1), some (.iload_n 2, 1), some (.aload_n 0, 1), some (.getfield 114, 3), none, none, some (.if_icmp .ge 19, 3), none, none, some (.iload_n 1, 1), some (.aload_n 0, 1), some (.iload_n 2, 1), some (.invokevirtual 133, 3), none, none, some (.invokestatic 127, 3), none, none, some (.istore_n 1, 1), some (.iinc 2 1, 3), none, none, some (.goto (-21), 3), none, none, some (.iload_n 1, 1), some (.ireturn, 1)]
def g_m_X8_mostRoom : ri_Mt := (RX8, yX8_mostRoom, cX8_mostRoom, 3, (some .int), g_co_X8_mostRoom, 8)
def g_co_X8_fits : List (Option (Instr × Nat)) := [some (.iload_n 1, 1), some (.iconst 1, 1), some (.if_icmp .ge 5, 3), none, none, some (.iconst (-1), 1), some (.ireturn, 1), some (.aload_n 0, 1), some (.invokevirtual 130, 3), none, none, some (.iconst (-1), 1), some (.istore_n 3, 1), some (.iconst 0, 1), some (.istore 4, 2), none, some (.iload 4, 2), none, some (.aload_n 0, 1), some (.getfield 114, 3), none, none, some (.if_icmp .ge 68, 3), none, none, some (.aload_n 0, 1), some (.iload 4, 2), none, some (.invokevirtual 133, 3), none, none, some (.iload_n 1, 1), some (.if_icmp .ge 6, 3), none, none, some (.goto 49, 3), none, none, some (.iload_n 3, 1), some (.iconst (-1), 1), some (.if_icmp .eq 41, 3), none, none, some (.iload_n 2, 1), some (.iconst 1, 1), some (.if_icmp .ne 17, 3), none, none, some (.aload_n 0, 1), some (.iload 4, 2), none, some (.invokevirtual 133, 3), none, none, some (.aload_n 0, 1), some (.iload_n 3, 1), some (.invokevirtual 133, 3), none, none, some (.if_icmp .lt 22, 3), none, none, some (.iload_n 2, 1), some (.iconst 2, 1), some (.if_icmp .ne 20, 3), none, none, some (.aload_n 0, 1), some (.iload 4, 2), none, some (.invokevirtual 133, 3), none, none, some (.aload_n 0, 1), some (.iload_n 3, 1), some (.invokevirtual 133, 3), none, none, some (.if_icmp .le 6, 3), none, none, some (.iload 4, 2), none, some (.istore_n 3, 1), some (.iinc 4 1, 3), none, none, some (.goto (-71), 3), none, none, some (.iload_n 3, 1), some (.iconst (-1), 1), some (.if_icmp .ne 7, 3), none, none, some (.iconst (-1), 1), some (.goto 8, 3), none, none, some (.aload_n 0, 1), some (.iload_n 3, 1), some (.invokevirtual 123, 3), none, none, some (.ireturn, 1)]
def g_m_X8_fits : ri_Mt := (RX8, yX8_fits, cX8_fits, 5, (some .int), g_co_X8_fits, 8)
def g_co_X8_scratchFor : List (Option (Instr × Nat)) := [some (.iconst 0, 1), some (.istore 4, 2), none, some (.aload_n 0, 1), some (.getfield 7, 3), none, none, some (.iconst 0, 1), some (.iaload, 1), some (.iconst 1, 1), some (.isub, 1), some (.istore 5, 2), none, some (.iload 5, 2), none, some (.ifCond .lt 82, 3), none, none, some (.aload_n 0, 1), some (.iload 5, 2), none, some (.i2l, 1), some (.lconst 1, 1), some (.invokevirtual 103, 3), none, none, some (.ifCond .eq 38, 3), none, none, some (.aload_n 0, 1), some (.iload 5, 2), none, some (.i2l, 1), some (.lconst 1, 1), some (.iconst (-1), 1), some (.invokevirtual 107, 3), none, none, some (.ifCond .ne 26, 3), none, none, some (.iload 5, 2), none, some (.i2l, 1), some (.lconst 1, 1), some (.iload_n 2, 1), some (.i2l, 1), some (.aload_n 0, 1), some (.iload_n 1, 1), some (.iconst 2, 1), some (.invokevirtual 67, 3), none, none, some (.i2l, 1), some (.invokestatic 86, 3), none, none, some (.ifCond .ne 7, 3), none, none, some (.iconst 1, 1), some (.goto 4, 3), none, none, some (.iconst 0, 1), some (.istore 6, 2), none, some (.iload 6, 2), none, some (.ifCond .eq 10, 3), none, none, some (.iload 4, 2), none, some (.iconst 1, 1), some (.iadd, 1), some (.goto 4, 3), none, none, some (.iconst 0, 1), some (.istore 4, 2), none, some (.iload 4, 2), none, some (.iload_n 3, 1), some (.if_icmp .ne 6, 3), none, none, some (.iload 5, 2), none, some (.ireturn, 1), some (.iinc 5 (-1), 3), none, none, some (.goto (-81), 3), none, none, some (.iconst (-1), 1), some (.ireturn, 1)]
def g_m_X8_scratchFor : ri_Mt := (RX8, yX8_scratchFor, cX8_scratchFor, 7, (some .int), g_co_X8_scratchFor, 8)
def g_co_X8_whyNotMoved : List (Option (Instr × Nat)) := [some (.aload_n 0, 1), some (.iload_n 1, 1), some (.iconst 5, 1), some (.invokevirtual 67, 3), none, none, some (.iconst 1, 1), some (.if_icmp .ne 5, 3), none, none, some (.iconst 1, 1), some (.ireturn, 1), some (.aload_n 0, 1), some (.invokevirtual 95, 3), none, none, some (.ifCond .eq 5, 3), none, none, some (.iconst 2, 1), some (.ireturn, 1), some (.iload_n 2, 1), some (.aload_n 0, 1), some (.iload_n 1, 1), some (.iconst 1, 1), some (.invokevirtual 67, 3), none, none, some (.if_icmp .ne 5, 3), none, none, some (.iconst 3, 1), some (.ireturn, 1), some (.aload_n 0, 1), some (.iload_n 2, 1), some (.i2l, 1), some (.aload_n 0, 1), some (.iload_n 1, 1), some (.iconst 2, 1), some (.invokevirtual 67, 3), none, none, some (.i2l, 1), some (.invokevirtual 103, 3), none, none, some (.ifCond .ne 5, 3), none, none, some (.iconst 4, 1), some (.ireturn, 1), some (.iload_n 2, 1), some (.aload_n 0, 1), some (.getfield 7, 3), none, none, some (.iconst 3, 1), some (.iaload, 1), some (.irem, 1), some (.ifCond .eq 5, 3), none, none, some (.iconst 5, 1), some (.ireturn, 1), some (.aload_n 0, 1), some (.iload_n 2, 1), some (.i2l, 1), some (.aload_n 0, 1), some (.iload_n 1, 1), some (.iconst 2, 1), some (.invokevirtual 67, 3), none, none, some (.i2l, 1), some (.iload_n 1, 1), some (.invokevirtual 107, 3), none, none, some (.ifCond .eq 6, 3), none, none, some (.bipush 6, 2), none, some (.ireturn, 1), some (.aload_n 0, 1), some (.getfield 7, 3), none, none, some (.iconst 4, 1), some (.iaload, 1), some (.aload_n 0, 1), some (.iload_n 1, 1), some (.iconst 2, 1), some (.invokevirtual 67, 3), none, none, some (.invokestatic 90, 3), none, none, some (.istore_n 3, 1), some (.iload_n 3, 1), some (.aload_n 0, 1), some (.iload_n 1, 1), some (.iconst 1, 1), some (.invokevirtual 67, 3), none, none, some (.iload_n 2, 1), some (.invokestatic 136, 3), none, none, some (.if_icmp .le 19, 3), none, none, some (.aload_n 0, 1), some (.iload_n 1, 1), some (.iload_n 2, 1), some (.iload_n 3, 1), some (.invokevirtual 139, 3), none, none, some (.iconst (-1), 1), some (.if_icmp .ne 8, 3), none, none, some (.bipush 7, 2), none, some (.goto 4, 3), none, none, some (.iconst 0, 1), some (.ireturn, 1)]
def g_m_X8_whyNotMoved : ri_Mt := (RX8, yX8_whyNotMoved, cX8_whyNotMoved, 4, (some .int), g_co_X8_whyNotMoved, 8)
def g_co_X8_far : List (Option (Instr × Nat)) := [some (.iload_n 0, 1), some (.iload_n 1, 1), some (.if_icmp .ge 9, 3), none, none, some (.iload_n 1, 1), some (.iload_n 0, 1), some (.isub, 1), some (.goto 6, 3), none, none, some (.iload_n 0, 1), some (.iload_n 1, 1), some (.isub, 1), some (.ireturn, 1)]
def g_m_X8_far : ri_Mt := (RX8, yX8_far, cX8_far, 2, (some .int), g_co_X8_far, 8)
def g_co_X8_stepsOf : List (Option (Instr × Nat)) := [some (.iconst 0, 1), some (.istore 5, 2), none, some (.iload_n 3, 1), some (.istore 6, 2), none, some (.iload 6, 2), none, some (.iload 4, 2), none, some (.if_icmp .ge 33, 3), none, none, some (.iload 5, 2), none, some (.iload_n 1, 1), some (.iload_n 0, 1), some (.iload 6, 2), none, some (.iload_n 1, 1), some (.imul, 1), some (.isub, 1), some (.invokestatic 90, 3), none, none, some (.iload_n 2, 1), some (.if_icmp .le 7, 3), none, none, some (.iconst 2, 1), some (.goto 4, 3), none, none, some (.iconst 1, 1), some (.iadd, 1), some (.istore 5, 2), none, some (.iinc 6 1, 3), none, none, some (.goto (-34), 3), none, none, some (.iload 5, 2), none, some (.ireturn, 1)]
def g_m_X8_stepsOf : ri_Mt := (RX8, yX8_stepsOf, cX8_stepsOf, 7, (some .int), g_co_X8_stepsOf, 8)
def g_co_X8_stepsBy : List (Option (Instr × Nat)) := [some (.aload_n 0, 1), some (.iload_n 1, 1), some (.iconst 2, 1), some (.invokevirtual 67, 3), none, none, some (.aload_n 0, 1), some (.getfield 7, 3), none, none, some (.iconst 4, 1), some (.iaload, 1), some (.aload_n 0, 1), some (.iload_n 1, 1), some (.iconst 1, 1), some (.invokevirtual 67, 3), none, none, some (.iload_n 2, 1), some (.invokestatic 136, 3), none, none, some (.iconst 0, 1), some (.aload_n 0, 1), some (.iload_n 1, 1), some (.iconst 2, 1), some (.invokevirtual 67, 3), none, none, some (.aload_n 0, 1), some (.getfield 7, 3), none, none, some (.iconst 4, 1), some (.iaload, 1), some (.invokestatic 120, 3), none, none, some (.invokestatic 143, 3), none, none, some (.ireturn, 1)]
def g_m_X8_stepsBy : ri_Mt := (RX8, yX8_stepsBy, cX8_stepsBy, 3, (some .int), g_co_X8_stepsBy, 8)
def g_co_X8_chunks : List (Option (Instr × Nat)) := [some (.aload_n 0, 1), some (.aload_n 0, 1), some (.getfield 7, 3), none, none, some (.bipush 16, 2), none, some (.iaload, 1), some (.iconst 2, 1), some (.invokevirtual 67, 3), none, none, some (.aload_n 0, 1), some (.getfield 7, 3), none, none, some (.bipush 19, 2), none, some (.iaload, 1), some (.invokestatic 120, 3), none, none, some (.ireturn, 1)]
def g_m_X8_chunks : ri_Mt := (RX8, yX8_chunks, cX8_chunks, 1, (some .int), g_co_X8_chunks, 8)
def g_co_X8_distance : List (Option (Instr × Nat)) := [some (.aload_n 0, 1), some (.getfield 7, 3), none, none, some (.bipush 17, 2), none, some (.iaload, 1), some (.aload_n 0, 1), some (.getfield 7, 3), none, none, some (.bipush 18, 2), none, some (.iaload, 1), some (.invokestatic 136, 3), none, none, some (.ireturn, 1)]
def g_m_X8_distance : ri_Mt := (RX8, yX8_distance, cX8_distance, 1, (some .int), g_co_X8_distance, 8)
def g_co_X8_isAscending : List (Option (Instr × Nat)) := [some (.aload_n 0, 1), some (.getfield 7, 3), none, none, some (.bipush 18, 2), none, some (.iaload, 1), some (.aload_n 0, 1), some (.getfield 7, 3), none, none, some (.bipush 17, 2), none, some (.iaload, 1), some (.if_icmp .ge 7, 3), none, none, some (.iconst 1, 1), some (.goto 4, 3), none, none, some (.iconst 0, 1), some (.ireturn, 1)]
def g_m_X8_isAscending : ri_Mt := (RX8, yX8_isAscending, cX8_isAscending, 1, (some .boolean), g_co_X8_isAscending, 8)
def g_co_X8_isChunkMoved : List (Option (Instr × Nat)) := [some (.aload_n 0, 1), some (.invokevirtual 147, 3), none, none, some (.ifCond .eq 22, 3), none, none, some (.iload_n 1, 1), some (.aload_n 0, 1), some (.getfield 7, 3), none, none, some (.bipush 21, 2), none, some (.iaload, 1), some (.if_icmp .ge 7, 3), none, none, some (.iconst 1, 1), some (.goto 28, 3), none, none, some (.iconst 0, 1), some (.goto 24, 3), none, none, some (.iload_n 1, 1), some (.aload_n 0, 1), some (.invokevirtual 150, 3), none, none, some (.aload_n 0, 1), some (.getfield 7, 3), none, none, some (.bipush 21, 2), none, some (.iaload, 1), some (.isub, 1), some (.if_icmp .lt 7, 3), none, none, some (.iconst 1, 1), some (.goto 4, 3), none, none, some (.iconst 0, 1), some (.ireturn, 1)]
def g_m_X8_isChunkMoved : ri_Mt := (RX8, yX8_isChunkMoved, cX8_isChunkMoved, 2, (some .boolean), g_co_X8_isChunkMoved, 8)
def g_co_X8_nextChunk : List (Option (Instr × Nat)) := [some (.aload_n 0, 1), some (.invokevirtual 147, 3), none, none, some (.ifCond .eq 13, 3), none, none, some (.aload_n 0, 1), some (.getfield 7, 3), none, none, some (.bipush 21, 2), none, some (.iaload, 1), some (.goto 17, 3), none, none, some (.aload_n 0, 1), some (.invokevirtual 150, 3), none, none, some (.iconst 1, 1), some (.isub, 1), some (.aload_n 0, 1), some (.getfield 7, 3), none, none, some (.bipush 21, 2), none, some (.iaload, 1), some (.isub, 1), some (.ireturn, 1)]
def g_m_X8_nextChunk : ri_Mt := (RX8, yX8_nextChunk, cX8_nextChunk, 1, (some .int), g_co_X8_nextChunk, 8)
def g_co_X8_firstBlock : List (Option (Instr × Nat)) := [some (.aload_n 0, 1), some (.invokevirtual 153, 3), none, none, some (.aload_n 0, 1), some (.getfield 7, 3), none, none, some (.bipush 19, 2), none, some (.iaload, 1), some (.imul, 1), some (.ireturn, 1)]
def g_m_X8_firstBlock : ri_Mt := (RX8, yX8_firstBlock, cX8_firstBlock, 1, (some .int), g_co_X8_firstBlock, 8)
def g_co_X8_blocksNext : List (Option (Instr × Nat)) := [some (.aload_n 0, 1), some (.getfield 7, 3), none, none, some (.bipush 19, 2), none, some (.iaload, 1), some (.aload_n 0, 1), some (.aload_n 0, 1), some (.getfield 7, 3), none, none, some (.bipush 16, 2), none, some (.iaload, 1), some (.iconst 2, 1), some (.invokevirtual 67, 3), none, none, some (.aload_n 0, 1), some (.invokevirtual 156, 3), none, none, some (.isub, 1), some (.invokestatic 90, 3), none, none, some (.ireturn, 1)]
def g_m_X8_blocksNext : ri_Mt := (RX8, yX8_blocksNext, cX8_blocksNext, 1, (some .int), g_co_X8_blocksNext, 8)
def g_co_X8_stepsLeft : List (Option (Instr × Nat)) := [some (.aload_n 0, 1), some (.aload_n 0, 1), some (.getfield 7, 3), none, none, some (.bipush 16, 2), none, some (.iaload, 1), some (.iconst 2, 1), some (.invokevirtual 67, 3), none, none, some (.istore_n 1, 1), some (.aload_n 0, 1), some (.invokevirtual 147, 3), none, none, some (.ifCond .eq 32, 3), none, none, some (.iload_n 1, 1), some (.aload_n 0, 1), some (.getfield 7, 3), none, none, some (.bipush 19, 2), none, some (.iaload, 1), some (.aload_n 0, 1), some (.invokevirtual 159, 3), none, none, some (.aload_n 0, 1), some (.getfield 7, 3), none, none, some (.bipush 21, 2), none, some (.iaload, 1), some (.aload_n 0, 1), some (.invokevirtual 150, 3), none, none, some (.invokestatic 143, 3), none, none, some (.goto 31, 3), none, none, some (.iload_n 1, 1), some (.aload_n 0, 1), some (.getfield 7, 3), none, none, some (.bipush 19, 2), none, some (.iaload, 1), some (.aload_n 0, 1), some (.invokevirtual 159, 3), none, none, some (.iconst 0, 1), some (.aload_n 0, 1), some (.invokevirtual 150, 3), none, none, some (.aload_n 0, 1), some (.getfield 7, 3), none, none, some (.bipush 21, 2), none, some (.iaload, 1), some (.isub, 1), some (.invokestatic 143, 3), none, none, some (.istore_n 2, 1), some (.iload_n 2, 1), some (.aload_n 0, 1), some (.getfield 7, 3), none, none, some (.bipush 22, 2), none, some (.iaload, 1), some (.isub, 1), some (.ireturn, 1)]
def g_m_X8_stepsLeft : ri_Mt := (RX8, yX8_stepsLeft, cX8_stepsLeft, 3, (some .int), g_co_X8_stepsLeft, 8)
def g_co_X8_stepKind : List (Option (Instr × Nat)) := [some (.aload_n 0, 1), some (.invokevirtual 162, 3), none, none, some (.aload_n 0, 1), some (.invokevirtual 159, 3), none, none, some (.if_icmp .gt 7, 3), none, none, some (.iconst 0, 1), some (.goto 19, 3), none, none, some (.aload_n 0, 1), some (.getfield 7, 3), none, none, some (.bipush 22, 2), none, some (.iaload, 1), some (.iconst 1, 1), some (.if_icmp .ne 7, 3), none, none, some (.iconst 2, 1), some (.goto 4, 3), none, none, some (.iconst 1, 1), some (.ireturn, 1)]
def g_m_X8_stepKind : ri_Mt := (RX8, yX8_stepKind, cX8_stepKind, 1, (some .int), g_co_X8_stepKind, 8)
def g_co_X8_sourceOf : List (Option (Instr × Nat)) := [some (.aload_n 0, 1), some (.invokevirtual 165, 3), none, none, some (.iconst 2, 1), some (.if_icmp .ne 15, 3), none, none, some (.aload_n 0, 1), some (.getfield 7, 3), none, none, some (.bipush 20, 2), none, some (.iaload, 1), some (.iload_n 1, 1), some (.iadd, 1), some (.goto 17, 3), none, none, some (.aload_n 0, 1), some (.getfield 7, 3), none, none, some (.bipush 17, 2), none, some (.iaload, 1), some (.aload_n 0, 1), some (.invokevirtual 156, 3), none, none, some (.iadd, 1), some (.iload_n 1, 1), some (.iadd, 1), some (.ireturn, 1)]
def g_m_X8_sourceOf : ri_Mt := (RX8, yX8_sourceOf, cX8_sourceOf, 2, (some .int), g_co_X8_sourceOf, 8)
def g_co_X8_targetOf : List (Option (Instr × Nat)) := [some (.aload_n 0, 1), some (.invokevirtual 165, 3), none, none, some (.iconst 1, 1), some (.if_icmp .ne 15, 3), none, none, some (.aload_n 0, 1), some (.getfield 7, 3), none, none, some (.bipush 20, 2), none, some (.iaload, 1), some (.iload_n 1, 1), some (.iadd, 1), some (.goto 17, 3), none, none, some (.aload_n 0, 1), some (.getfield 7, 3), none, none, some (.bipush 18, 2), none, some (.iaload, 1), some (.aload_n 0, 1), some (.invokevirtual 156, 3), none, none, some (.iadd, 1), some (.iload_n 1, 1), some (.iadd, 1), some (.ireturn, 1)]
def g_m_X8_targetOf : ri_Mt := (RX8, yX8_targetOf, cX8_targetOf, 2, (some .int), g_co_X8_targetOf, 8)
def g_co_X8_copiesBlocks : List (Option (Instr × Nat)) := [some (.iconst 0, 1), some (.istore_n 2, 1), some (.iload_n 2, 1), some (.iload_n 1, 1), some (.if_icmp .ge 35, 3), none, none, some (.aload_n 0, 1), some (.getfield 7, 3), none, none, some (.bipush 88, 2), none, some (.aload_n 0, 1), some (.iload_n 2, 1), some (.invokevirtual 168, 3), none, none, some (.iadd, 1), some (.aload_n 0, 1), some (.getfield 7, 3), none, none, some (.bipush 88, 2), none, some (.aload_n 0, 1), some (.iload_n 2, 1), some (.invokevirtual 171, 3), none, none, some (.iadd, 1), some (.iaload, 1), some (.iastore, 1), some (.iinc 2 1, 3), none, none, some (.goto (-34), 3), none, none, some (.return_, 1)]
def g_m_X8_copiesBlocks : ri_Mt := (RX8, yX8_copiesBlocks, cX8_copiesBlocks, 3, none, g_co_X8_copiesBlocks, 8)
def g_co_X8_starts : List (Option (Instr × Nat)) := [some (.aload_n 0, 1), some (.getfield 7, 3), none, none, some (.iconst 4, 1), some (.iaload, 1), some (.aload_n 0, 1), some (.iload_n 1, 1), some (.iconst 2, 1), some (.invokevirtual 67, 3), none, none, some (.invokestatic 90, 3), none, none, some (.istore_n 3, 1), some (.iload_n 3, 1), some (.aload_n 0, 1), some (.iload_n 1, 1), some (.iconst 1, 1), some (.invokevirtual 67, 3), none, none, some (.iload_n 2, 1), some (.invokestatic 136, 3), none, none, some (.if_icmp .le 13, 3), none, none, some (.aload_n 0, 1), some (.iload_n 1, 1), some (.iload_n 2, 1), some (.iload_n 3, 1), some (.invokevirtual 139, 3), none, none, some (.goto 4, 3), none, none, some (.iconst (-1), 1), some (.istore 4, 2), none, some (.aload_n 0, 1), some (.getfield 7, 3), none, none, some (.bipush 16, 2), none, some (.iload_n 1, 1), some (.iastore, 1), some (.aload_n 0, 1), some (.getfield 7, 3), none, none, some (.bipush 17, 2), none, some (.aload_n 0, 1), some (.iload_n 1, 1), some (.iconst 1, 1), some (.invokevirtual 67, 3), none, none, some (.iastore, 1), some (.aload_n 0, 1), some (.getfield 7, 3), none, none, some (.bipush 18, 2), none, some (.iload_n 2, 1), some (.iastore, 1), some (.aload_n 0, 1), some (.getfield 7, 3), none, none, some (.bipush 19, 2), none, some (.aload_n 0, 1), some (.getfield 7, 3), none, none, some (.iconst 4, 1), some (.iaload, 1), some (.iastore, 1), some (.aload_n 0, 1), some (.getfield 7, 3), none, none, some (.bipush 20, 2), none, some (.iload 4, 2), none, some (.iastore, 1), some (.aload_n 0, 1), some (.getfield 7, 3), none, none, some (.bipush 21, 2), none, some (.iconst 0, 1), some (.iastore, 1), some (.aload_n 0, 1), some (.getfield 7, 3), none, none, some (.bipush 22, 2), none, some (.iconst 0, 1), some (.iastore, 1), some (.return_, 1)]
def g_m_X8_starts : ri_Mt := (RX8, yX8_starts, cX8_starts, 5, none, g_co_X8_starts, 8)
def g_co_X8_step : List (Option (Instr × Nat)) := [some (.aload_n 0, 1), some (.invokevirtual 165, 3), none, none, some (.istore_n 1, 1), some (.aload_n 0, 1), some (.aload_n 0, 1), some (.invokevirtual 162, 3), none, none, some (.invokevirtual 174, 3), none, none, some (.aload_n 0, 1), some (.getfield 7, 3), none, none, some (.bipush 6, 2), none, some (.dup2, 1), some (.iaload, 1), some (.iconst 1, 1), some (.iadd, 1), some (.iastore, 1), some (.aload_n 0, 1), some (.getfield 7, 3), none, none, some (.bipush 22, 2), none, some (.iload_n 1, 1), some (.iconst 1, 1), some (.if_icmp .ne 7, 3), none, none, some (.iconst 1, 1), some (.goto 4, 3), none, none, some (.iconst 0, 1), some (.iastore, 1), some (.iload_n 1, 1), some (.iconst 1, 1), some (.if_icmp .ne 4, 3), none, none, some (.return_, 1), some (.aload_n 0, 1), some (.getfield 7, 3), none, none, some (.bipush 21, 2), none, some (.dup2, 1), some (.iaload, 1), some (.iconst 1, 1), some (.iadd, 1), some (.iastore, 1), some (.aload_n 0, 1), some (.getfield 7, 3), none, none, some (.bipush 21, 2), none, some (.iaload, 1), some (.aload_n 0, 1), some (.invokevirtual 150, 3), none, none, some (.if_icmp .ge 4, 3), none, none, some (.return_, 1), some (.aload_n 0, 1), some (.getfield 7, 3), none, none, some (.bipush 16, 2), none, some (.iaload, 1), some (.istore_n 2, 1), some (.aload_n 0, 1), some (.iload_n 2, 1), some (.iconst 1, 1), some (.aload_n 0, 1), some (.getfield 7, 3), none, none, some (.bipush 18, 2), none, some (.iaload, 1), some (.invokevirtual 78, 3), none, none, some (.aload_n 0, 1), some (.iload_n 2, 1), some (.bipush 7, 2), none, some (.aload_n 0, 1), some (.iload_n 2, 1), some (.bipush 7, 2), none, some (.invokevirtual 67, 3), none, none, some (.iconst 1, 1), some (.iadd, 1), some (.invokevirtual 78, 3), none, none, some (.aload_n 0, 1), some (.getfield 7, 3), none, none, some (.bipush 16, 2), none, some (.iconst (-1), 1), some (.iastore, 1), some (.aload_n 0, 1), some (.getfield 7, 3), none, none, some (.bipush 8, 2), none, some (.dup2, 1), some (.iaload, 1), some (.iconst 1, 1), some (.iadd, 1), some (.iastore, 1), some (.return_, 1)]
def g_m_X8_step : ri_Mt := (RX8, yX8_step, cX8_step, 3, none, g_co_X8_step, 8)
def g_co_X8_runs : List (Option (Instr × Nat)) := [some (.iconst 0, 1), some (.istore_n 2, 1), some (.iload_n 2, 1), some (.iload_n 1, 1), some (.if_icmp .ge 20, 3), none, none, some (.aload_n 0, 1), some (.invokevirtual 95, 3), none, none, some (.ifCond .eq 13, 3), none, none, some (.aload_n 0, 1), some (.invokevirtual 177, 3), none, none, some (.iinc 2 1, 3), none, none, some (.goto (-19), 3), none, none, some (.iload_n 2, 1), some (.ireturn, 1)]
def g_m_X8_runs : ri_Mt := (RX8, yX8_runs, cX8_runs, 3, (some .int), g_co_X8_runs, 8)
def g_co_X8_placeOf : List (Option (Instr × Nat)) := [some (.aload_n 0, 1), some (.iload_n 1, 1), some (.invokevirtual 71, 3), none, none, some (.ifCond .ne 12, 3), none, none, some (.aload_n 0, 1), some (.iload_n 1, 1), some (.iconst 1, 1), some (.invokevirtual 67, 3), none, none, some (.iload_n 2, 1), some (.iadd, 1), some (.ireturn, 1), some (.iload_n 2, 1), some (.aload_n 0, 1), some (.getfield 7, 3), none, none, some (.bipush 19, 2), none, some (.iaload, 1), some (.idiv, 1), some (.istore_n 3, 1), some (.aload_n 0, 1), some (.iload_n 3, 1), some (.invokevirtual 180, 3), none, none, some (.ifCond .eq 13, 3), none, none, some (.aload_n 0, 1), some (.getfield 7, 3), none, none, some (.bipush 18, 2), none, some (.iaload, 1), some (.iload_n 2, 1), some (.iadd, 1), some (.ireturn, 1), some (.aload_n 0, 1), some (.getfield 7, 3), none, none, some (.bipush 22, 2), none, some (.iaload, 1), some (.iconst 1, 1), some (.if_icmp .ne 28, 3), none, none, some (.iload_n 3, 1), some (.aload_n 0, 1), some (.invokevirtual 153, 3), none, none, some (.if_icmp .ne 20, 3), none, none, some (.aload_n 0, 1), some (.getfield 7, 3), none, none, some (.bipush 20, 2), none, some (.iaload, 1), some (.iload_n 2, 1), some (.iadd, 1), some (.aload_n 0, 1), some (.invokevirtual 156, 3), none, none, some (.isub, 1), some (.goto 12, 3), none, none, some (.aload_n 0, 1), some (.getfield 7, 3), none, none, some (.bipush 17, 2), none, some (.iaload, 1), some (.iload_n 2, 1), some (.iadd, 1), some (.ireturn, 1)]
def g_m_X8_placeOf : ri_Mt := (RX8, yX8_placeOf, cX8_placeOf, 4, (some .int), g_co_X8_placeOf, 8)
def g_co_X8_leftOf : List (Option (Instr × Nat)) := [some (.iconst 0, 1), some (.istore_n 2, 1), some (.iload_n 2, 1), some (.aload_n 0, 1), some (.iload_n 1, 1), some (.iconst 1, 1), some (.invokevirtual 67, 3), none, none, some (.if_icmp .ge 20, 3), none, none, some (.aload_n 0, 1), some (.iload_n 1, 1), some (.iload_n 2, 1), some (.invokevirtual 183, 3), none, none, some (.ifCond .ne 5, 3), none, none, some (.iload_n 2, 1), some (.ireturn, 1), some (.iinc 2 1, 3), none, none, some (.goto (-24), 3), none, none, some (.iconst (-1), 1), some (.ireturn, 1)]
def g_m_X8_leftOf : ri_Mt := (RX8, yX8_leftOf, cX8_leftOf, 3, (some .int), g_co_X8_leftOf, 8)
def g_co_X8_rightOf : List (Option (Instr × Nat)) := [some (.aload_n 0, 1), some (.getfield 7, 3), none, none, some (.iconst 0, 1), some (.iaload, 1), some (.iconst 1, 1), some (.isub, 1), some (.istore_n 2, 1), some (.iload_n 2, 1), some (.aload_n 0, 1), some (.iload_n 1, 1), some (.iconst 1, 1), some (.invokevirtual 67, 3), none, none, some (.if_icmp .le 20, 3), none, none, some (.aload_n 0, 1), some (.iload_n 1, 1), some (.iload_n 2, 1), some (.invokevirtual 183, 3), none, none, some (.ifCond .ne 5, 3), none, none, some (.iload_n 2, 1), some (.ireturn, 1), some (.iinc 2 (-1), 3), none, none, some (.goto (-24), 3), none, none, some (.iconst (-1), 1), some (.ireturn, 1)]
def g_m_X8_rightOf : ri_Mt := (RX8, yX8_rightOf, cX8_rightOf, 3, (some .int), g_co_X8_rightOf, 8)
def g_co_X8_appendWord : List (Option (Instr × Nat)) := [some (.bipush 24, 2), none, some (.istore_n 2, 1), some (.iload_n 2, 1), some (.ifCond .lt 35, 3), none, none, some (.aload_n 0, 1), some (.getfield 31, 3), none, none, some (.aload_n 0, 1), some (.getfield 186, 3), none, none, some (.iload_n 1, 1), some (.iload_n 2, 1), some (.ishr, 1), some (.sipush 255, 3), none, none, some (.iand, 1), some (.iastore, 1), some (.aload_n 0, 1), some (.dup, 1), some (.getfield 186, 3), none, none, some (.iconst 1, 1), some (.iadd, 1), some (.putfield 186, 3), none, none, some (.iinc 2 (-8), 3), none, none, some (.goto (-33), 3), none, none, some (.return_, 1)]
def g_m_X8_appendWord : ri_Mt := (RX8, yX8_appendWord, cX8_appendWord, 3, none, g_co_X8_appendWord, 8)
def g_co_X8_appendInput : List (Option (Instr × Nat)) := [some (.aload_n 0, 1), some (.iconst 0, 1), some (.putfield 51, 3), none, none, some (.aload_n 0, 1), some (.getfield 186, 3), none, none, some (.bipush 20, 2), none, some (.iadd, 1), some (.sipush 500, 3), none, none, some (.if_icmp .le 5, 3), none, none, some (.iconst (-1), 1), some (.ireturn, 1), some (.aload_n 0, 1), some (.iload_n 1, 1), some (.invokevirtual 189, 3), none, none, some (.aload_n 0, 1), some (.iload_n 2, 1), some (.invokevirtual 189, 3), none, none, some (.aload_n 0, 1), some (.iload_n 3, 1), some (.invokevirtual 189, 3), none, none, some (.aload_n 0, 1), some (.iload 4, 2), none, some (.invokevirtual 189, 3), none, none, some (.aload_n 0, 1), some (.iload 5, 2), none, some (.invokevirtual 189, 3), none, none, some (.aload_n 0, 1), some (.getfield 186, 3), none, none, some (.ireturn, 1)]
def g_m_X8_appendInput : ri_Mt := (RX8, yX8_appendInput, cX8_appendInput, 6, (some .int), g_co_X8_appendInput, 8)
def g_co_X8_truncateInput : List (Option (Instr × Nat)) := [some (.aload_n 0, 1), some (.iconst 0, 1), some (.putfield 51, 3), none, none, some (.iload_n 1, 1), some (.i2l, 1), some (.lconst 0, 1), some (.aload_n 0, 1), some (.getfield 186, 3), none, none, some (.i2l, 1), some (.invokestatic 63, 3), none, none, some (.ifCond .ne 5, 3), none, none, some (.iconst 0, 1), some (.ireturn, 1), some (.aload_n 0, 1), some (.iload_n 1, 1), some (.putfield 186, 3), none, none, some (.iconst 1, 1), some (.ireturn, 1)]
def g_m_X8_truncateInput : ri_Mt := (RX8, yX8_truncateInput, cX8_truncateInput, 2, (some .boolean), g_co_X8_truncateInput, 8)
def g_co_X8_byteAt : List (Option (Instr × Nat)) := [some (.iload_n 1, 1), some (.aload_n 0, 1), some (.getfield 186, 3), none, none, some (.if_icmp .ge 12, 3), none, none, some (.aload_n 0, 1), some (.getfield 31, 3), none, none, some (.iload_n 1, 1), some (.iaload, 1), some (.goto 4, 3), none, none, some (.iconst (-1), 1), some (.ireturn, 1)]
def g_m_X8_byteAt : ri_Mt := (RX8, yX8_byteAt, cX8_byteAt, 2, (some .int), g_co_X8_byteAt, 8)
def g_co_X8_advanceToken : List (Option (Instr × Nat)) := [some (.aload_n 0, 1), some (.aload_n 0, 1), some (.getfield 192, 3), none, none, some (.invokevirtual 195, 3), none, none, some (.bipush 32, 2), none, some (.if_icmp .eq 16, 3), none, none, some (.aload_n 0, 1), some (.aload_n 0, 1), some (.getfield 192, 3), none, none, some (.invokevirtual 195, 3), none, none, some (.bipush 10, 2), none, some (.if_icmp .ne 16, 3), none, none, some (.aload_n 0, 1), some (.dup, 1), some (.getfield 192, 3), none, none, some (.iconst 1, 1), some (.iadd, 1), some (.putfield 192, 3), none, none, some (.goto (-36), 3), none, none, some (.aload_n 0, 1), some (.aload_n 0, 1), some (.getfield 192, 3), none, none, some (.putfield 198, 3), none, none, some (.aload_n 0, 1), some (.aload_n 0, 1), some (.getfield 192, 3), none, none, some (.invokevirtual 195, 3), none, none, some (.istore_n 1, 1), some (.aload_n 0, 1), some (.iconst 0, 1), some (.putfield 201, 3), none, none, some (.iload_n 1, 1), some (.iconst (-1), 1), some (.if_icmp .ne 11, 3), none, none, some (.aload_n 0, 1), some (.iconst 0, 1), some (.putfield 204, 3), none, none, some (.goto 170, 3), none, none, some (.iload_n 1, 1), some (.i2l, 1), some (.ldc2_w 207, 3), none, none, some (.ldc2_w 209, 3), none, none, some (.invokestatic 63, 3), none, none, some (.ifCond .eq 42, 3), none, none, some (.aload_n 0, 1), some (.iconst 1, 1), some (.putfield 204, 3), none, none, some (.aload_n 0, 1), some (.aload_n 0, 1), some (.getfield 192, 3), none, none, some (.invokevirtual 195, 3), none, none, some (.i2l, 1), some (.ldc2_w 207, 3), none, none, some (.ldc2_w 209, 3), none, none, some (.invokestatic 63, 3), none, none, some (.ifCond .eq 130, 3), none, none, some (.aload_n 0, 1), some (.dup, 1), some (.getfield 192, 3), none, none, some (.iconst 1, 1), some (.iadd, 1), some (.putfield 192, 3), none, none, some (.goto (-31), 3), none, none, some (.iload_n 1, 1), some (.i2l, 1), some (.ldc2_w 211, 3), none, none, some (.ldc2_w 213, 3), none, none, some (.invokestatic 63, 3), none, none, some (.ifCond .eq 78, 3), none, none, some (.aload_n 0, 1), some (.iconst 2, 1), some (.putfield 204, 3), none, none, some (.aload_n 0, 1), some (.aload_n 0, 1), some (.getfield 192, 3), none, none, some (.invokevirtual 195, 3), none, none, some (.i2l, 1), some (.ldc2_w 211, 3), none, none, some (.ldc2_w 213, 3), none, none, some (.invokestatic 63, 3), none, none, some (.ifCond .eq 77, 3), none, none, some (.aload_n 0, 1), some (.getfield 192, 3), none, none, some (.aload_n 0, 1), some (.getfield 198, 3), none, none, some (.isub, 1), some (.iconst 3, 1), some (.if_icmp .ge 26, 3), none, none, some (.aload_n 0, 1), some (.bipush 10, 2), none, some (.aload_n 0, 1), some (.getfield 201, 3), none, none, some (.imul, 1), some (.aload_n 0, 1), some (.aload_n 0, 1), some (.getfield 192, 3), none, none, some (.invokevirtual 195, 3), none, none, some (.iadd, 1), some (.bipush 48, 2), none, some (.isub, 1), some (.putfield 201, 3), none, none, some (.aload_n 0, 1), some (.dup, 1), some (.getfield 192, 3), none, none, some (.iconst 1, 1), some (.iadd, 1), some (.putfield 192, 3), none, none, some (.goto (-67), 3), none, none, some (.aload_n 0, 1), some (.iload_n 1, 1), some (.bipush 59, 2), none, some (.if_icmp .ne 7, 3), none, none, some (.iconst 3, 1), some (.goto 4, 3), none, none, some (.iconst 4, 1), some (.putfield 204, 3), none, none, some (.aload_n 0, 1), some (.dup, 1), some (.getfield 192, 3), none, none, some (.iconst 1, 1), some (.iadd, 1), some (.putfield 192, 3), none, none, some (.return_, 1)]
def g_m_X8_advanceToken : ri_Mt := (RX8, yX8_advanceToken, cX8_advanceToken, 2, none, g_co_X8_advanceToken, 8)
def g_co_X8_tokenLength : List (Option (Instr × Nat)) := [some (.aload_n 0, 1), some (.getfield 192, 3), none, none, some (.aload_n 0, 1), some (.getfield 198, 3), none, none, some (.isub, 1), some (.ireturn, 1)]
def g_m_X8_tokenLength : ri_Mt := (RX8, yX8_tokenLength, cX8_tokenLength, 1, (some .int), g_co_X8_tokenLength, 8)
def g_co_X8_failsAt : List (Option (Instr × Nat)) := [some (.aload_n 0, 1), some (.getfield 215, 3), none, none, some (.ifCond .ne 16, 3), none, none, some (.aload_n 0, 1), some (.iload_n 1, 1), some (.putfield 215, 3), none, none, some (.aload_n 0, 1), some (.aload_n 0, 1), some (.getfield 198, 3), none, none, some (.putfield 218, 3), none, none, some (.iconst 0, 1), some (.ireturn, 1)]
def g_m_X8_failsAt : ri_Mt := (RX8, yX8_failsAt, cX8_failsAt, 2, (some .boolean), g_co_X8_failsAt, 8)
def g_co_X8_isWord : List (Option (Instr × Nat)) := [some (.aload_n 0, 1), some (.getfield 204, 3), none, none, some (.iconst 1, 1), some (.if_icmp .ne 14, 3), none, none, some (.aload_n 0, 1), some (.invokevirtual 221, 3), none, none, some (.aload_n 1, 1), some (.invokevirtual 224, 3), none, none, some (.if_icmp .eq 5, 3), none, none, some (.iconst 0, 1), some (.ireturn, 1), some (.iconst 0, 1), some (.istore_n 2, 1), some (.iload_n 2, 1), some (.aload_n 1, 1), some (.invokevirtual 224, 3), none, none, some (.if_icmp .ge 30, 3), none, none, some (.aload_n 0, 1), some (.getfield 31, 3), none, none, some (.aload_n 0, 1), some (.getfield 198, 3), none, none, some (.iload_n 2, 1), some (.iadd, 1), some (.iaload, 1), some (.aload_n 1, 1), some (.iload_n 2, 1), some (.invokevirtual 229, 3), none, none, some (.if_icmp .eq 5, 3), none, none, some (.iconst 0, 1), some (.ireturn, 1), some (.iinc 2 1, 3), none, none, some (.goto (-32), 3), none, none, some (.iconst 1, 1), some (.ireturn, 1)]
def g_m_X8_isWord : ri_Mt := (RX8, yX8_isWord, cX8_isWord, 3, (some .boolean), g_co_X8_isWord, 8)
def g_co_X8_isNumber : List (Option (Instr × Nat)) := [some (.aload_n 0, 1), some (.getfield 204, 3), none, none, some (.iconst 2, 1), some (.if_icmp .ne 11, 3), none, none, some (.aload_n 0, 1), some (.invokevirtual 221, 3), none, none, some (.iconst 3, 1), some (.if_icmp .le 9, 3), none, none, some (.aload_n 0, 1), some (.iconst 1, 1), some (.invokevirtual 233, 3), none, none, some (.ireturn, 1), some (.aload_n 0, 1), some (.getfield 201, 3), none, none, some (.i2l, 1), some (.iload_n 1, 1), some (.i2l, 1), some (.iload_n 2, 1), some (.i2l, 1), some (.invokestatic 63, 3), none, none, some (.ifCond .ne 11, 3), none, none, some (.aload_n 0, 1), some (.iconst 2, 1), some (.invokevirtual 233, 3), none, none, some (.ifCond .eq 7, 3), none, none, some (.iconst 1, 1), some (.goto 4, 3), none, none, some (.iconst 0, 1), some (.ireturn, 1)]
def g_m_X8_isNumber : ri_Mt := (RX8, yX8_isNumber, cX8_isNumber, 3, (some .boolean), g_co_X8_isNumber, 8)
def g_co_X8_takes : List (Option (Instr × Nat)) := [some (.aload_n 0, 1), some (.iload_n 2, 1), some (.iload_n 3, 1), some (.invokevirtual 236, 3), none, none, some (.ifCond .ne 5, 3), none, none, some (.iconst 0, 1), some (.ireturn, 1), some (.aload_n 0, 1), some (.getfield 38, 3), none, none, some (.iload_n 1, 1), some (.aload_n 0, 1), some (.getfield 201, 3), none, none, some (.iastore, 1), some (.aload_n 0, 1), some (.invokevirtual 240, 3), none, none, some (.iconst 1, 1), some (.ireturn, 1)]
def g_m_X8_takes : ri_Mt := (RX8, yX8_takes, cX8_takes, 4, (some .boolean), g_co_X8_takes, 8)
def g_co_X8_readSetting : List (Option (Instr × Nat)) := [some (.iload_n 2, 1), some (.bipush 8, 2), none, some (.if_icmp .ge 18, 3), none, none, some (.aload_n 0, 1), some (.getfield 7, 3), none, none, some (.iconst 5, 1), some (.iaload, 1), some (.ifCond .le 9, 3), none, none, some (.aload_n 0, 1), some (.iconst 1, 1), some (.invokevirtual 233, 3), none, none, some (.ireturn, 1), some (.aload_n 0, 1), some (.getfield 243, 3), none, none, some (.iload_n 2, 1), some (.iand, 1), some (.ifCond .eq 9, 3), none, none, some (.aload_n 0, 1), some (.iconst 3, 1), some (.invokevirtual 233, 3), none, none, some (.ireturn, 1), some (.aload_n 0, 1), some (.dup, 1), some (.getfield 243, 3), none, none, some (.iload_n 2, 1), some (.ior, 1), some (.putfield 243, 3), none, none, some (.aload_n 0, 1), some (.invokevirtual 240, 3), none, none, some (.aload_n 0, 1), some (.iconst 0, 1), some (.iload_n 3, 1), some (.iload 4, 2), none, some (.invokevirtual 246, 3), none, none, some (.ifCond .ne 5, 3), none, none, some (.iconst 0, 1), some (.ireturn, 1), some (.aload_n 0, 1), some (.getfield 7, 3), none, none, some (.iload_n 1, 1), some (.aload_n 0, 1), some (.getfield 38, 3), none, none, some (.iconst 0, 1), some (.iaload, 1), some (.iastore, 1), some (.iconst 1, 1), some (.ireturn, 1)]
def g_m_X8_readSetting : ri_Mt := (RX8, yX8_readSetting, cX8_readSetting, 5, (some .boolean), g_co_X8_readSetting, 8)
def g_co_X8_readPart : List (Option (Instr × Nat)) := [some (.aload_n 0, 1), some (.getfield 7, 3), none, none, some (.iconst 5, 1), some (.iaload, 1), some (.bipush 8, 2), none, some (.if_icmp .ne 9, 3), none, none, some (.aload_n 0, 1), some (.iconst 5, 1), some (.invokevirtual 233, 3), none, none, some (.ireturn, 1), some (.aload_n 0, 1), some (.invokevirtual 240, 3), none, none, some (.aload_n 0, 1), some (.iconst 0, 1), some (.sipush 999, 3), none, none, some (.invokevirtual 236, 3), none, none, some (.ifCond .ne 5, 3), none, none, some (.iconst 0, 1), some (.ireturn, 1), some (.aload_n 0, 1), some (.aload_n 0, 1), some (.getfield 201, 3), none, none, some (.i2l, 1), some (.lconst 1, 1), some (.invokevirtual 103, 3), none, none, some (.ifCond .eq 17, 3), none, none, some (.aload_n 0, 1), some (.getfield 201, 3), none, none, some (.aload_n 0, 1), some (.getfield 7, 3), none, none, some (.iconst 3, 1), some (.iaload, 1), some (.irem, 1), some (.ifCond .eq 9, 3), none, none, some (.aload_n 0, 1), some (.iconst 2, 1), some (.invokevirtual 233, 3), none, none, some (.ireturn, 1), some (.aload_n 0, 1), some (.iconst 0, 1), some (.iconst 0, 1), some (.sipush 999, 3), none, none, some (.invokevirtual 246, 3), none, none, some (.ifCond .eq 14, 3), none, none, some (.aload_n 0, 1), some (.iconst 1, 1), some (.sipush 999, 3), none, none, some (.invokevirtual 236, 3), none, none, some (.ifCond .ne 5, 3), none, none, some (.iconst 0, 1), some (.ireturn, 1), some (.aload_n 0, 1), some (.aload_n 0, 1), some (.getfield 38, 3), none, none, some (.iconst 0, 1), some (.iaload, 1), some (.i2l, 1), some (.aload_n 0, 1), some (.getfield 201, 3), none, none, some (.i2l, 1), some (.invokevirtual 103, 3), none, none, some (.ifCond .ne 9, 3), none, none, some (.aload_n 0, 1), some (.iconst 2, 1), some (.invokevirtual 233, 3), none, none, some (.ireturn, 1), some (.aload_n 0, 1), some (.aload_n 0, 1), some (.getfield 38, 3), none, none, some (.iconst 0, 1), some (.iaload, 1), some (.i2l, 1), some (.aload_n 0, 1), some (.getfield 201, 3), none, none, some (.i2l, 1), some (.iconst (-1), 1), some (.invokevirtual 107, 3), none, none, some (.ifCond .eq 9, 3), none, none, some (.aload_n 0, 1), some (.iconst 4, 1), some (.invokevirtual 233, 3), none, none, some (.ireturn, 1), some (.aload_n 0, 1), some (.iconst 1, 1), some (.iconst 1, 1), some (.sipush 999, 3), none, none, some (.invokevirtual 246, 3), none, none, some (.ifCond .eq 29, 3), none, none, some (.aload_n 0, 1), some (.iconst 2, 1), some (.iconst 0, 1), some (.bipush 9, 2), none, some (.invokevirtual 246, 3), none, none, some (.ifCond .eq 18, 3), none, none, some (.aload_n 0, 1), some (.iconst 3, 1), some (.iconst 1, 1), some (.aload_n 0, 1), some (.getfield 38, 3), none, none, some (.iconst 1, 1), some (.iaload, 1), some (.invokevirtual 246, 3), none, none, some (.ifCond .ne 5, 3), none, none, some (.iconst 0, 1), some (.ireturn, 1), some (.aload_n 0, 1), some (.aload_n 0, 1), some (.getfield 38, 3), none, none, some (.iconst 0, 1), some (.iaload, 1), some (.aload_n 0, 1), some (.getfield 38, 3), none, none, some (.iconst 1, 1), some (.iaload, 1), some (.aload_n 0, 1), some (.getfield 38, 3), none, none, some (.iconst 2, 1), some (.iaload, 1), some (.aload_n 0, 1), some (.getfield 38, 3), none, none, some (.iconst 3, 1), some (.iaload, 1), some (.invokevirtual 250, 3), none, none, some (.istore_n 1, 1), some (.iload_n 1, 1), some (.ifCond .lt 7, 3), none, none, some (.iconst 1, 1), some (.goto 4, 3), none, none, some (.iconst 0, 1), some (.ireturn, 1)]
def g_m_X8_readPart : ri_Mt := (RX8, yX8_readPart, cX8_readPart, 2, (some .boolean), g_co_X8_readPart, 8)
def g_co_X8_readLock : List (Option (Instr × Nat)) := [some (.aload_n 0, 1), some (.invokevirtual 240, 3), none, none, some (.aload_n 0, 1), some (.iconst 0, 1), some (.aload_n 0, 1), some (.getfield 7, 3), none, none, some (.iconst 5, 1), some (.iaload, 1), some (.iconst 1, 1), some (.isub, 1), some (.invokevirtual 236, 3), none, none, some (.ifCond .ne 5, 3), none, none, some (.iconst 0, 1), some (.ireturn, 1), some (.aload_n 0, 1), some (.aload_n 0, 1), some (.getfield 201, 3), none, none, some (.iconst 5, 1), some (.invokevirtual 67, 3), none, none, some (.iconst 1, 1), some (.if_icmp .ne 9, 3), none, none, some (.aload_n 0, 1), some (.iconst 3, 1), some (.invokevirtual 233, 3), none, none, some (.ireturn, 1), some (.aload_n 0, 1), some (.aload_n 0, 1), some (.getfield 201, 3), none, none, some (.iconst 5, 1), some (.iconst 1, 1), some (.invokevirtual 78, 3), none, none, some (.aload_n 0, 1), some (.invokevirtual 240, 3), none, none, some (.iconst 1, 1), some (.ireturn, 1)]
def g_m_X8_readLock : ri_Mt := (RX8, yX8_readLock, cX8_readLock, 1, (some .boolean), g_co_X8_readLock, 8)
def g_co_X8_readStatement : List (Option (Instr × Nat)) := [some (.aload_n 0, 1), some (.ldc 254, 2), none, some (.invokevirtual 256, 3), none, none, some (.ifCond .eq 13, 3), none, none, some (.aload_n 0, 1), some (.iconst 1, 1), some (.iconst 1, 1), some (.iconst 0, 1), some (.bipush 31, 2), none, some (.invokevirtual 260, 3), none, none, some (.ireturn, 1), some (.aload_n 0, 1), some (.ldc_w 264, 3), none, none, some (.invokevirtual 256, 3), none, none, some (.ifCond .eq 13, 3), none, none, some (.aload_n 0, 1), some (.iconst 2, 1), some (.iconst 2, 1), some (.iconst 0, 1), some (.bipush 31, 2), none, some (.invokevirtual 260, 3), none, none, some (.ireturn, 1), some (.aload_n 0, 1), some (.ldc_w 266, 3), none, none, some (.invokevirtual 256, 3), none, none, some (.ifCond .eq 13, 3), none, none, some (.aload_n 0, 1), some (.iconst 3, 1), some (.iconst 4, 1), some (.iconst 1, 1), some (.bipush 32, 2), none, some (.invokevirtual 260, 3), none, none, some (.ireturn, 1), some (.aload_n 0, 1), some (.ldc_w 268, 3), none, none, some (.invokevirtual 256, 3), none, none, some (.ifCond .eq 14, 3), none, none, some (.aload_n 0, 1), some (.iconst 4, 1), some (.bipush 8, 2), none, some (.iconst 1, 1), some (.bipush 16, 2), none, some (.invokevirtual 260, 3), none, none, some (.ireturn, 1), some (.aload_n 0, 1), some (.ldc_w 270, 3), none, none, some (.invokevirtual 256, 3), none, none, some (.ifCond .eq 8, 3), none, none, some (.aload_n 0, 1), some (.invokevirtual 272, 3), none, none, some (.ireturn, 1), some (.aload_n 0, 1), some (.ldc_w 275, 3), none, none, some (.invokevirtual 256, 3), none, none, some (.ifCond .eq 10, 3), none, none, some (.aload_n 0, 1), some (.invokevirtual 277, 3), none, none, some (.goto 8, 3), none, none, some (.aload_n 0, 1), some (.iconst 1, 1), some (.invokevirtual 233, 3), none, none, some (.ireturn, 1)]
def g_m_X8_readStatement : ri_Mt := (RX8, yX8_readStatement, cX8_readStatement, 1, (some .boolean), g_co_X8_readStatement, 8)
def g_co_X8_passesSemicolon : List (Option (Instr × Nat)) := [some (.aload_n 0, 1), some (.getfield 204, 3), none, none, some (.iconst 3, 1), some (.if_icmp .eq 9, 3), none, none, some (.aload_n 0, 1), some (.iconst 1, 1), some (.invokevirtual 233, 3), none, none, some (.ireturn, 1), some (.aload_n 0, 1), some (.invokevirtual 240, 3), none, none, some (.iconst 1, 1), some (.ireturn, 1)]
def g_m_X8_passesSemicolon : ri_Mt := (RX8, yX8_passesSemicolon, cX8_passesSemicolon, 1, (some .boolean), g_co_X8_passesSemicolon, 8)
def g_co_X8_readText : List (Option (Instr × Nat)) := [some (.aload_n 0, 1), some (.ldc_w 280, 3), none, none, some (.invokevirtual 256, 3), none, none, some (.ifCond .ne 9, 3), none, none, some (.aload_n 0, 1), some (.iconst 1, 1), some (.invokevirtual 233, 3), none, none, some (.ireturn, 1), some (.aload_n 0, 1), some (.invokevirtual 240, 3), none, none, some (.aload_n 0, 1), some (.iconst 0, 1), some (.bipush 64, 2), none, some (.sipush 600, 3), none, none, some (.invokevirtual 246, 3), none, none, some (.ifCond .ne 5, 3), none, none, some (.iconst 0, 1), some (.ireturn, 1), some (.aload_n 0, 1), some (.getfield 7, 3), none, none, some (.iconst 0, 1), some (.aload_n 0, 1), some (.getfield 38, 3), none, none, some (.iconst 0, 1), some (.iaload, 1), some (.iastore, 1), some (.aload_n 0, 1), some (.invokevirtual 282, 3), none, none, some (.ifCond .ne 5, 3), none, none, some (.iconst 0, 1), some (.ireturn, 1), some (.aload_n 0, 1), some (.getfield 204, 3), none, none, some (.ifCond .eq 19, 3), none, none, some (.aload_n 0, 1), some (.invokevirtual 285, 3), none, none, some (.ifCond .eq 10, 3), none, none, some (.aload_n 0, 1), some (.invokevirtual 282, 3), none, none, some (.ifCond .ne (-18), 3), none, none, some (.iconst 0, 1), some (.ireturn, 1), some (.iconst 1, 1), some (.ireturn, 1)]
def g_m_X8_readText : ri_Mt := (RX8, yX8_readText, cX8_readText, 1, (some .boolean), g_co_X8_readText, 8)
def g_co_X8_loadDisk : List (Option (Instr × Nat)) := [some (.aload_n 0, 1), some (.iconst 0, 1), some (.putfield 51, 3), none, none, some (.aload_n 0, 1), some (.getfield 7, 3), none, none, some (.iconst 0, 1), some (.aload_n 0, 1), some (.getfield 13, 3), none, none, some (.iconst 0, 1), some (.sipush 688, 3), none, none, some (.invokestatic 57, 3), none, none, some (.aload_n 0, 1), some (.bipush 64, 2), none, some (.invokevirtual 47, 3), none, none, some (.aload_n 0, 1), some (.iconst 0, 1), some (.putfield 215, 3), none, none, some (.aload_n 0, 1), some (.iconst (-1), 1), some (.putfield 218, 3), none, none, some (.aload_n 0, 1), some (.iconst 0, 1), some (.putfield 192, 3), none, none, some (.aload_n 0, 1), some (.iconst 0, 1), some (.putfield 243, 3), none, none, some (.aload_n 0, 1), some (.invokevirtual 240, 3), none, none, some (.aload_n 0, 1), some (.invokevirtual 288, 3), none, none, some (.istore_n 1, 1), some (.aload_n 0, 1), some (.iconst 0, 1), some (.putfield 186, 3), none, none, some (.aload_n 0, 1), some (.aload_n 0, 1), some (.getfield 215, 3), none, none, some (.putfield 291, 3), none, none, some (.aload_n 0, 1), some (.aload_n 0, 1), some (.getfield 218, 3), none, none, some (.putfield 34, 3), none, none, some (.iload_n 1, 1), some (.ifCond .ne 21, 3), none, none, some (.aload_n 0, 1), some (.getfield 13, 3), none, none, some (.iconst 0, 1), some (.aload_n 0, 1), some (.getfield 7, 3), none, none, some (.iconst 0, 1), some (.sipush 688, 3), none, none, some (.invokestatic 57, 3), none, none, some (.iconst (-1), 1), some (.ireturn, 1), some (.aload_n 0, 1), some (.iconst 0, 1), some (.putfield 54, 3), none, none, some (.aload_n 0, 1), some (.iconst 0, 1), some (.putfield 294, 3), none, none, some (.aload_n 0, 1), some (.invokevirtual 298, 3), none, none, some (.ireturn, 1)]
def g_m_X8_loadDisk : ri_Mt := (RX8, yX8_loadDisk, cX8_loadDisk, 2, (some .int), g_co_X8_loadDisk, 8)
def g_co_X8_errorCode : List (Option (Instr × Nat)) := [some (.aload_n 0, 1), some (.iconst 0, 1), some (.putfield 51, 3), none, none, some (.aload_n 0, 1), some (.getfield 291, 3), none, none, some (.ireturn, 1)]
def g_m_X8_errorCode : ri_Mt := (RX8, yX8_errorCode, cX8_errorCode, 1, (some .int), g_co_X8_errorCode, 8)
def g_co_X8_errorOffset : List (Option (Instr × Nat)) := [some (.aload_n 0, 1), some (.iconst 0, 1), some (.putfield 51, 3), none, none, some (.aload_n 0, 1), some (.getfield 34, 3), none, none, some (.ireturn, 1)]
def g_m_X8_errorOffset : ri_Mt := (RX8, yX8_errorOffset, cX8_errorOffset, 1, (some .int), g_co_X8_errorOffset, 8)
def g_co_X8_gapSectors : List (Option (Instr × Nat)) := [some (.aload_n 0, 1), some (.invokevirtual 130, 3), none, none, some (.iconst 0, 1), some (.istore_n 1, 1), some (.iconst 0, 1), some (.istore_n 2, 1), some (.iload_n 2, 1), some (.aload_n 0, 1), some (.getfield 114, 3), none, none, some (.if_icmp .ge 18, 3), none, none, some (.iload_n 1, 1), some (.aload_n 0, 1), some (.getfield 28, 3), none, none, some (.iload_n 2, 1), some (.iaload, 1), some (.iadd, 1), some (.istore_n 1, 1), some (.iinc 2 1, 3), none, none, some (.goto (-20), 3), none, none, some (.iload_n 1, 1), some (.ireturn, 1)]
def g_m_X8_gapSectors : ri_Mt := (RX8, yX8_gapSectors, cX8_gapSectors, 3, (some .int), g_co_X8_gapSectors, 8)
def g_co_X8_gapsNow : List (Option (Instr × Nat)) := [some (.aload_n 0, 1), some (.invokevirtual 130, 3), none, none, some (.aload_n 0, 1), some (.getfield 114, 3), none, none, some (.ireturn, 1)]
def g_m_X8_gapsNow : ri_Mt := (RX8, yX8_gapsNow, cX8_gapsNow, 1, (some .int), g_co_X8_gapsNow, 8)
def g_co_X8_count : List (Option (Instr × Nat)) := [some (.aload_n 0, 1), some (.iconst 0, 1), some (.putfield 51, 3), none, none, some (.aload_n 0, 1), some (.iload_n 1, 1), some (.i2l, 1), some (.lconst 0, 1), some (.ldc2_w 301, 3), none, none, some (.invokestatic 63, 3), none, none, some (.ifCond .ne 7, 3), none, none, some (.iconst 1, 1), some (.goto 4, 3), none, none, some (.iconst 0, 1), some (.iconst 1, 1), some (.invokevirtual 303, 3), none, none, some (.ifCond .eq 5, 3), none, none, some (.iconst 0, 1), some (.ireturn, 1), some (.iload_n 1, 1), some (.tableswitch 87 5 11 #[43, 48, 53, 58, 66, 74, 82], 43), none, none, none, none, none, none, none, none, none, none, none, none, none, none, none, none, none, none, none, none, none, none, none, none, none, none, none, none, none, none, none, none, none, none, none, none, none, none, none, none, none, none, some (.aload_n 0, 1), some (.invokevirtual 298, 3), none, none, some (.ireturn, 1), some (.aload_n 0, 1), some (.invokevirtual 307, 3), none, none, some (.ireturn, 1), some (.aload_n 0, 1), some (.invokevirtual 310, 3), none, none, some (.ireturn, 1), some (.aload_n 0, 1), some (.getfield 7, 3), none, none, some (.bipush 6, 2), none, some (.iaload, 1), some (.ireturn, 1), some (.aload_n 0, 1), some (.getfield 7, 3), none, none, some (.bipush 7, 2), none, some (.iaload, 1), some (.ireturn, 1), some (.aload_n 0, 1), some (.getfield 7, 3), none, none, some (.bipush 8, 2), none, some (.iaload, 1), some (.ireturn, 1), some (.aload_n 0, 1), some (.getfield 54, 3), none, none, some (.ireturn, 1), some (.aload_n 0, 1), some (.getfield 7, 3), none, none, some (.iload_n 1, 1), some (.iaload, 1), some (.ireturn, 1)]
def g_m_X8_count : ri_Mt := (RX8, yX8_count, cX8_count, 2, (some .int), g_co_X8_count, 8)
def g_co_X8_noPart : List (Option (Instr × Nat)) := [some (.aload_n 0, 1), some (.aload_n 0, 1), some (.iload_n 1, 1), some (.invokevirtual 313, 3), none, none, some (.ifCond .ne 7, 3), none, none, some (.iconst 1, 1), some (.goto 4, 3), none, none, some (.iconst 0, 1), some (.iload_n 2, 1), some (.invokevirtual 303, 3), none, none, some (.ireturn, 1)]
def g_m_X8_noPart : ri_Mt := (RX8, yX8_noPart, cX8_noPart, 3, (some .boolean), g_co_X8_noPart, 8)
def g_co_X8_part : List (Option (Instr × Nat)) := [some (.aload_n 0, 1), some (.iconst 0, 1), some (.putfield 51, 3), none, none, some (.aload_n 0, 1), some (.iload_n 2, 1), some (.i2l, 1), some (.lconst 0, 1), some (.ldc2_w 316, 3), none, none, some (.invokestatic 63, 3), none, none, some (.ifCond .ne 7, 3), none, none, some (.iconst 1, 1), some (.goto 4, 3), none, none, some (.iconst 0, 1), some (.iconst 1, 1), some (.invokevirtual 303, 3), none, none, some (.ifCond .ne 12, 3), none, none, some (.aload_n 0, 1), some (.iload_n 1, 1), some (.iconst 2, 1), some (.invokevirtual 318, 3), none, none, some (.ifCond .eq 5, 3), none, none, some (.iconst 0, 1), some (.ireturn, 1), some (.aload_n 0, 1), some (.iload_n 1, 1), some (.iload_n 2, 1), some (.iconst 1, 1), some (.iadd, 1), some (.invokevirtual 67, 3), none, none, some (.ireturn, 1)]
def g_m_X8_part : ri_Mt := (RX8, yX8_part, cX8_part, 3, (some .int), g_co_X8_part, 8)
def g_co_X8_noSector : List (Option (Instr × Nat)) := [some (.aload_n 0, 1), some (.iconst 0, 1), some (.putfield 51, 3), none, none, some (.aload_n 0, 1), some (.iload_n 1, 1), some (.i2l, 1), some (.lconst 0, 1), some (.aload_n 0, 1), some (.getfield 7, 3), none, none, some (.iconst 0, 1), some (.iaload, 1), some (.iconst 1, 1), some (.isub, 1), some (.i2l, 1), some (.invokestatic 63, 3), none, none, some (.ifCond .ne 7, 3), none, none, some (.iconst 1, 1), some (.goto 4, 3), none, none, some (.iconst 0, 1), some (.iconst 1, 1), some (.invokevirtual 303, 3), none, none, some (.ireturn, 1)]
def g_m_X8_noSector : ri_Mt := (RX8, yX8_noSector, cX8_noSector, 2, (some .boolean), g_co_X8_noSector, 8)
def g_co_X8_sector : List (Option (Instr × Nat)) := [some (.aload_n 0, 1), some (.iload_n 1, 1), some (.invokevirtual 321, 3), none, none, some (.ifCond .eq 7, 3), none, none, some (.iconst 0, 1), some (.goto 12, 3), none, none, some (.aload_n 0, 1), some (.getfield 7, 3), none, none, some (.bipush 88, 2), none, some (.iload_n 1, 1), some (.iadd, 1), some (.iaload, 1), some (.ireturn, 1)]
def g_m_X8_sector : ri_Mt := (RX8, yX8_sector, cX8_sector, 2, (some .int), g_co_X8_sector, 8)
def g_co_X8_ownerOf : List (Option (Instr × Nat)) := [some (.iconst 0, 1), some (.istore_n 2, 1), some (.iload_n 2, 1), some (.bipush 8, 2), none, some (.if_icmp .ge 49, 3), none, none, some (.iconst 0, 1), some (.istore_n 3, 1), some (.aload_n 0, 1), some (.iload_n 2, 1), some (.iconst 0, 1), some (.invokevirtual 67, 3), none, none, some (.iconst 1, 1), some (.if_icmp .ne 31, 3), none, none, some (.iload_n 3, 1), some (.aload_n 0, 1), some (.iload_n 2, 1), some (.iconst 2, 1), some (.invokevirtual 67, 3), none, none, some (.if_icmp .ge 21, 3), none, none, some (.aload_n 0, 1), some (.iload_n 2, 1), some (.iload_n 3, 1), some (.invokevirtual 324, 3), none, none, some (.iload_n 1, 1), some (.if_icmp .ne 5, 3), none, none, some (.iload_n 2, 1), some (.ireturn, 1), some (.iinc 3 1, 3), none, none, some (.goto (-35), 3), none, none, some (.iinc 2 1, 3), none, none, some (.goto (-49), 3), none, none, some (.iconst (-1), 1), some (.ireturn, 1)]
def g_m_X8_ownerOf : ri_Mt := (RX8, yX8_ownerOf, cX8_ownerOf, 4, (some .int), g_co_X8_ownerOf, 8)
def g_co_X8_owner : List (Option (Instr × Nat)) := [some (.aload_n 0, 1), some (.iload_n 1, 1), some (.invokevirtual 321, 3), none, none, some (.ifCond .eq 7, 3), none, none, some (.iconst 0, 1), some (.goto 8, 3), none, none, some (.aload_n 0, 1), some (.iload_n 1, 1), some (.invokevirtual 327, 3), none, none, some (.ireturn, 1)]
def g_m_X8_owner : ri_Mt := (RX8, yX8_owner, cX8_owner, 2, (some .int), g_co_X8_owner, 8)
def g_co_X8_place : List (Option (Instr × Nat)) := [some (.aload_n 0, 1), some (.iconst 0, 1), some (.putfield 51, 3), none, none, some (.aload_n 0, 1), some (.aload_n 0, 1), some (.iload_n 1, 1), some (.invokevirtual 313, 3), none, none, some (.ifCond .eq 25, 3), none, none, some (.iload_n 2, 1), some (.i2l, 1), some (.lconst 0, 1), some (.aload_n 0, 1), some (.iload_n 1, 1), some (.iconst 2, 1), some (.invokevirtual 67, 3), none, none, some (.iconst 1, 1), some (.isub, 1), some (.i2l, 1), some (.invokestatic 63, 3), none, none, some (.ifCond .ne 7, 3), none, none, some (.iconst 1, 1), some (.goto 4, 3), none, none, some (.iconst 0, 1), some (.iconst 1, 1), some (.invokevirtual 303, 3), none, none, some (.ifCond .ne 12, 3), none, none, some (.aload_n 0, 1), some (.iload_n 1, 1), some (.iconst 2, 1), some (.invokevirtual 318, 3), none, none, some (.ifCond .eq 5, 3), none, none, some (.iconst 0, 1), some (.ireturn, 1), some (.aload_n 0, 1), some (.iload_n 1, 1), some (.iload_n 2, 1), some (.invokevirtual 324, 3), none, none, some (.ireturn, 1)]
def g_m_X8_place : ri_Mt := (RX8, yX8_place, cX8_place, 3, (some .int), g_co_X8_place, 8)
def g_co_X8_whole : List (Option (Instr × Nat)) := [some (.iconst 1, 1), some (.istore_n 2, 1), some (.iconst 0, 1), some (.istore_n 3, 1), some (.iload_n 3, 1), some (.aload_n 0, 1), some (.iload_n 1, 1), some (.iconst 2, 1), some (.invokevirtual 67, 3), none, none, some (.if_icmp .ge 42, 3), none, none, some (.iload_n 2, 1), some (.ifCond .eq 30, 3), none, none, some (.aload_n 0, 1), some (.getfield 7, 3), none, none, some (.bipush 88, 2), none, some (.aload_n 0, 1), some (.iload_n 1, 1), some (.iload_n 3, 1), some (.invokevirtual 324, 3), none, none, some (.iadd, 1), some (.iaload, 1), some (.aload_n 0, 1), some (.iload_n 1, 1), some (.iload_n 3, 1), some (.invokevirtual 75, 3), none, none, some (.if_icmp .ne 7, 3), none, none, some (.iconst 1, 1), some (.goto 4, 3), none, none, some (.iconst 0, 1), some (.istore_n 2, 1), some (.iinc 3 1, 3), none, none, some (.goto (-46), 3), none, none, some (.iload_n 2, 1), some (.ireturn, 1)]
def g_m_X8_whole : ri_Mt := (RX8, yX8_whole, cX8_whole, 4, (some .boolean), g_co_X8_whole, 8)
def g_co_X8_isWhole : List (Option (Instr × Nat)) := [some (.aload_n 0, 1), some (.iconst 0, 1), some (.putfield 51, 3), none, none, some (.aload_n 0, 1), some (.iload_n 1, 1), some (.iconst 1, 1), some (.invokevirtual 318, 3), none, none, some (.ifCond .ne 15, 3), none, none, some (.aload_n 0, 1), some (.iload_n 1, 1), some (.invokevirtual 330, 3), none, none, some (.ifCond .eq 7, 3), none, none, some (.iconst 1, 1), some (.goto 4, 3), none, none, some (.iconst 0, 1), some (.ireturn, 1)]
def g_m_X8_isWhole : ri_Mt := (RX8, yX8_isWhole, cX8_isWhole, 2, (some .boolean), g_co_X8_isWhole, 8)
def g_co_X8_verify : List (Option (Instr × Nat)) := [some (.aload_n 0, 1), some (.iconst 0, 1), some (.putfield 51, 3), none, none, some (.iconst 0, 1), some (.istore_n 1, 1), some (.iconst 0, 1), some (.istore_n 2, 1), some (.iload_n 2, 1), some (.bipush 8, 2), none, some (.if_icmp .ge 37, 3), none, none, some (.iload_n 1, 1), some (.aload_n 0, 1), some (.iload_n 2, 1), some (.iconst 0, 1), some (.invokevirtual 67, 3), none, none, some (.iconst 1, 1), some (.if_icmp .ne 17, 3), none, none, some (.aload_n 0, 1), some (.iload_n 2, 1), some (.invokevirtual 330, 3), none, none, some (.ifCond .eq 9, 3), none, none, some (.iconst 1, 1), some (.iload_n 2, 1), some (.ishl, 1), some (.goto 4, 3), none, none, some (.iconst 0, 1), some (.ior, 1), some (.istore_n 1, 1), some (.iinc 2 1, 3), none, none, some (.goto (-37), 3), none, none, some (.iload_n 1, 1), some (.ireturn, 1)]
def g_m_X8_verify : ri_Mt := (RX8, yX8_verify, cX8_verify, 3, (some .int), g_co_X8_verify, 8)
def g_co_X8_nextBy : List (Option (Instr × Nat)) := [some (.iconst (-1), 1), some (.istore_n 2, 1), some (.iconst 0, 1), some (.istore_n 3, 1), some (.iload_n 3, 1), some (.bipush 8, 2), none, some (.if_icmp .ge 51, 3), none, none, some (.aload_n 0, 1), some (.iload_n 3, 1), some (.iconst 0, 1), some (.invokevirtual 67, 3), none, none, some (.iconst 1, 1), some (.if_icmp .ne 35, 3), none, none, some (.aload_n 0, 1), some (.iload_n 3, 1), some (.iconst 1, 1), some (.invokevirtual 67, 3), none, none, some (.iload_n 1, 1), some (.if_icmp .le 25, 3), none, none, some (.iload_n 2, 1), some (.iconst (-1), 1), some (.if_icmp .eq 18, 3), none, none, some (.aload_n 0, 1), some (.iload_n 3, 1), some (.iconst 1, 1), some (.invokevirtual 67, 3), none, none, some (.aload_n 0, 1), some (.iload_n 2, 1), some (.iconst 1, 1), some (.invokevirtual 67, 3), none, none, some (.if_icmp .ge 5, 3), none, none, some (.iload_n 3, 1), some (.istore_n 2, 1), some (.iinc 3 1, 3), none, none, some (.goto (-51), 3), none, none, some (.iload_n 2, 1), some (.ireturn, 1)]
def g_m_X8_nextBy : ri_Mt := (RX8, yX8_nextBy, cX8_nextBy, 4, (some .int), g_co_X8_nextBy, 8)
def g_co_X8_standsAt : List (Option (Instr × Nat)) := [some (.aload_n 0, 1), some (.iconst (-1), 1), some (.invokevirtual 333, 3), none, none, some (.istore_n 2, 1), some (.iconst 0, 1), some (.istore_n 3, 1), some (.iload_n 3, 1), some (.iload_n 1, 1), some (.if_icmp .ge 25, 3), none, none, some (.iload_n 2, 1), some (.iconst (-1), 1), some (.if_icmp .eq 20, 3), none, none, some (.aload_n 0, 1), some (.aload_n 0, 1), some (.iload_n 2, 1), some (.iconst 1, 1), some (.invokevirtual 67, 3), none, none, some (.invokevirtual 333, 3), none, none, some (.istore_n 2, 1), some (.iinc 3 1, 3), none, none, some (.goto (-24), 3), none, none, some (.iload_n 2, 1), some (.ireturn, 1)]
def g_m_X8_standsAt : ri_Mt := (RX8, yX8_standsAt, cX8_standsAt, 4, (some .int), g_co_X8_standsAt, 8)
def g_co_X8_byStart : List (Option (Instr × Nat)) := [some (.aload_n 0, 1), some (.iconst 0, 1), some (.putfield 51, 3), none, none, some (.aload_n 0, 1), some (.iload_n 1, 1), some (.ifCond .ge 7, 3), none, none, some (.iconst 1, 1), some (.goto 4, 3), none, none, some (.iconst 0, 1), some (.iconst 1, 1), some (.invokevirtual 303, 3), none, none, some (.ifCond .eq 7, 3), none, none, some (.iconst 0, 1), some (.goto 13, 3), none, none, some (.aload_n 0, 1), some (.iload_n 1, 1), some (.bipush 8, 2), none, some (.invokestatic 90, 3), none, none, some (.invokevirtual 336, 3), none, none, some (.ireturn, 1)]
def g_m_X8_byStart : ri_Mt := (RX8, yX8_byStart, cX8_byStart, 2, (some .int), g_co_X8_byStart, 8)
def g_co_X8_behind : List (Option (Instr × Nat)) := [some (.aload_n 0, 1), some (.iconst 0, 1), some (.putfield 51, 3), none, none, some (.aload_n 0, 1), some (.iload_n 1, 1), some (.iconst 1, 1), some (.invokevirtual 318, 3), none, none, some (.ifCond .eq 7, 3), none, none, some (.iconst 0, 1), some (.goto 13, 3), none, none, some (.aload_n 0, 1), some (.aload_n 0, 1), some (.iload_n 1, 1), some (.iconst 1, 1), some (.invokevirtual 67, 3), none, none, some (.invokevirtual 333, 3), none, none, some (.ireturn, 1)]
def g_m_X8_behind : ri_Mt := (RX8, yX8_behind, cX8_behind, 2, (some .int), g_co_X8_behind, 8)
def g_co_X8_gap : List (Option (Instr × Nat)) := [some (.aload_n 0, 1), some (.iconst 0, 1), some (.putfield 51, 3), none, none, some (.aload_n 0, 1), some (.invokevirtual 130, 3), none, none, some (.aload_n 0, 1), some (.iload_n 1, 1), some (.i2l, 1), some (.lconst 0, 1), some (.aload_n 0, 1), some (.getfield 114, 3), none, none, some (.iconst 1, 1), some (.isub, 1), some (.i2l, 1), some (.invokestatic 63, 3), none, none, some (.ifCond .ne 7, 3), none, none, some (.iconst 1, 1), some (.goto 4, 3), none, none, some (.iconst 0, 1), some (.iconst 1, 1), some (.invokevirtual 303, 3), none, none, some (.ifCond .ne 28, 3), none, none, some (.aload_n 0, 1), some (.iload_n 2, 1), some (.i2l, 1), some (.lconst 0, 1), some (.ldc2_w 339, 3), none, none, some (.invokestatic 63, 3), none, none, some (.ifCond .ne 7, 3), none, none, some (.iconst 1, 1), some (.goto 4, 3), none, none, some (.iconst 0, 1), some (.iconst 2, 1), some (.invokevirtual 303, 3), none, none, some (.ifCond .eq 5, 3), none, none, some (.iconst 0, 1), some (.ireturn, 1), some (.iload_n 2, 1), some (.tableswitch 58 0 2 #[26, 33, 40], 26), none, none, none, none, none, none, none, none, none, none, none, none, none, none, none, none, none, none, none, none, none, none, none, none, none, some (.aload_n 0, 1), some (.getfield 25, 3), none, none, some (.iload_n 1, 1), some (.iaload, 1), some (.ireturn, 1), some (.aload_n 0, 1), some (.getfield 28, 3), none, none, some (.iload_n 1, 1), some (.iaload, 1), some (.ireturn, 1), some (.aload_n 0, 1), some (.iload_n 1, 1), some (.invokevirtual 133, 3), none, none, some (.ifCond .ne 7, 3), none, none, some (.iconst (-1), 1), some (.goto 8, 3), none, none, some (.aload_n 0, 1), some (.iload_n 1, 1), some (.invokevirtual 123, 3), none, none, some (.ireturn, 1), some (.aload_n 0, 1), some (.iload_n 1, 1), some (.invokevirtual 133, 3), none, none, some (.ireturn, 1)]
def g_m_X8_gap : ri_Mt := (RX8, yX8_gap, cX8_gap, 3, (some .int), g_co_X8_gap, 8)
def g_co_X8_greatestGap : List (Option (Instr × Nat)) := [some (.aload_n 0, 1), some (.invokevirtual 130, 3), none, none, some (.iconst 0, 1), some (.istore_n 1, 1), some (.iconst 0, 1), some (.istore_n 2, 1), some (.iload_n 2, 1), some (.aload_n 0, 1), some (.getfield 114, 3), none, none, some (.if_icmp .ge 20, 3), none, none, some (.iload_n 1, 1), some (.aload_n 0, 1), some (.getfield 28, 3), none, none, some (.iload_n 2, 1), some (.iaload, 1), some (.invokestatic 127, 3), none, none, some (.istore_n 1, 1), some (.iinc 2 1, 3), none, none, some (.goto (-22), 3), none, none, some (.iload_n 1, 1), some (.ireturn, 1)]
def g_m_X8_greatestGap : ri_Mt := (RX8, yX8_greatestGap, cX8_greatestGap, 3, (some .int), g_co_X8_greatestGap, 8)
def g_co_X8_largestGap : List (Option (Instr × Nat)) := [some (.aload_n 0, 1), some (.iconst 0, 1), some (.putfield 51, 3), none, none, some (.aload_n 0, 1), some (.invokevirtual 341, 3), none, none, some (.ireturn, 1)]
def g_m_X8_largestGap : ri_Mt := (RX8, yX8_largestGap, cX8_largestGap, 1, (some .int), g_co_X8_largestGap, 8)
def g_co_X8_gapAt : List (Option (Instr × Nat)) := [some (.aload_n 0, 1), some (.iload_n 1, 1), some (.invokevirtual 321, 3), none, none, some (.ifCond .eq 5, 3), none, none, some (.iconst 0, 1), some (.ireturn, 1), some (.aload_n 0, 1), some (.invokevirtual 130, 3), none, none, some (.iconst 0, 1), some (.istore_n 2, 1), some (.iload_n 2, 1), some (.aload_n 0, 1), some (.getfield 114, 3), none, none, some (.if_icmp .ge 42, 3), none, none, some (.iload_n 1, 1), some (.i2l, 1), some (.aload_n 0, 1), some (.getfield 25, 3), none, none, some (.iload_n 2, 1), some (.iaload, 1), some (.i2l, 1), some (.aload_n 0, 1), some (.getfield 25, 3), none, none, some (.iload_n 2, 1), some (.iaload, 1), some (.aload_n 0, 1), some (.getfield 28, 3), none, none, some (.iload_n 2, 1), some (.iaload, 1), some (.iadd, 1), some (.iconst 1, 1), some (.isub, 1), some (.i2l, 1), some (.invokestatic 63, 3), none, none, some (.ifCond .eq 5, 3), none, none, some (.iload_n 2, 1), some (.ireturn, 1), some (.iinc 2 1, 3), none, none, some (.goto (-44), 3), none, none, some (.iconst (-1), 1), some (.ireturn, 1)]
def g_m_X8_gapAt : ri_Mt := (RX8, yX8_gapAt, cX8_gapAt, 3, (some .int), g_co_X8_gapAt, 8)
def g_co_X8_fit : List (Option (Instr × Nat)) := [some (.aload_n 0, 1), some (.iconst 0, 1), some (.putfield 51, 3), none, none, some (.aload_n 0, 1), some (.iload_n 2, 1), some (.i2l, 1), some (.lconst 0, 1), some (.ldc2_w 344, 3), none, none, some (.invokestatic 63, 3), none, none, some (.ifCond .ne 7, 3), none, none, some (.iconst 1, 1), some (.goto 4, 3), none, none, some (.iconst 0, 1), some (.iconst 1, 1), some (.invokevirtual 303, 3), none, none, some (.ifCond .eq 7, 3), none, none, some (.iconst 0, 1), some (.goto 9, 3), none, none, some (.aload_n 0, 1), some (.iload_n 1, 1), some (.iload_n 2, 1), some (.invokevirtual 346, 3), none, none, some (.ireturn, 1)]
def g_m_X8_fit : ri_Mt := (RX8, yX8_fit, cX8_fit, 3, (some .int), g_co_X8_fit, 8)
def g_co_X8_reason : List (Option (Instr × Nat)) := [some (.aload_n 0, 1), some (.iconst 0, 1), some (.putfield 51, 3), none, none, some (.aload_n 0, 1), some (.iload_n 1, 1), some (.iload_n 2, 1), some (.invokevirtual 349, 3), none, none, some (.ireturn, 1)]
def g_m_X8_reason : ri_Mt := (RX8, yX8_reason, cX8_reason, 3, (some .int), g_co_X8_reason, 8)
def g_co_X8_overlapped : List (Option (Instr × Nat)) := [some (.aload_n 0, 1), some (.iconst 0, 1), some (.putfield 51, 3), none, none, some (.iconst 0, 1), some (.istore_n 3, 1), some (.iconst 0, 1), some (.istore 4, 2), none, some (.iload 4, 2), none, some (.bipush 8, 2), none, some (.if_icmp .ge 61, 3), none, none, some (.iload_n 2, 1), some (.ifCond .le 57, 3), none, none, some (.iload_n 3, 1), some (.aload_n 0, 1), some (.iload 4, 2), none, some (.iconst 0, 1), some (.invokevirtual 67, 3), none, none, some (.iconst 1, 1), some (.if_icmp .ne 36, 3), none, none, some (.iload_n 1, 1), some (.i2l, 1), some (.iload_n 2, 1), some (.i2l, 1), some (.aload_n 0, 1), some (.iload 4, 2), none, some (.iconst 1, 1), some (.invokevirtual 67, 3), none, none, some (.i2l, 1), some (.aload_n 0, 1), some (.iload 4, 2), none, some (.iconst 2, 1), some (.invokevirtual 67, 3), none, none, some (.i2l, 1), some (.invokestatic 86, 3), none, none, some (.ifCond .eq 10, 3), none, none, some (.iconst 1, 1), some (.iload 4, 2), none, some (.ishl, 1), some (.goto 4, 3), none, none, some (.iconst 0, 1), some (.ior, 1), some (.istore_n 3, 1), some (.iinc 4 1, 3), none, none, some (.goto (-62), 3), none, none, some (.iload_n 3, 1), some (.ireturn, 1)]
def g_m_X8_overlapped : ri_Mt := (RX8, yX8_overlapped, cX8_overlapped, 5, (some .int), g_co_X8_overlapped, 8)
def g_co_X8_waste : List (Option (Instr × Nat)) := [some (.aload_n 0, 1), some (.iconst 0, 1), some (.putfield 51, 3), none, none, some (.aload_n 0, 1), some (.invokevirtual 130, 3), none, none, some (.iconst 0, 1), some (.istore_n 1, 1), some (.iconst 0, 1), some (.istore_n 2, 1), some (.iload_n 2, 1), some (.aload_n 0, 1), some (.getfield 114, 3), none, none, some (.if_icmp .ge 24, 3), none, none, some (.iload_n 1, 1), some (.aload_n 0, 1), some (.getfield 28, 3), none, none, some (.iload_n 2, 1), some (.iaload, 1), some (.aload_n 0, 1), some (.iload_n 2, 1), some (.invokevirtual 133, 3), none, none, some (.isub, 1), some (.iadd, 1), some (.istore_n 1, 1), some (.iinc 2 1, 3), none, none, some (.goto (-26), 3), none, none, some (.iload_n 1, 1), some (.ireturn, 1)]
def g_m_X8_waste : ri_Mt := (RX8, yX8_waste, cX8_waste, 3, (some .int), g_co_X8_waste, 8)
def g_co_X8_scatter : List (Option (Instr × Nat)) := [some (.aload_n 0, 1), some (.iconst 0, 1), some (.putfield 51, 3), none, none, some (.aload_n 0, 1), some (.invokevirtual 307, 3), none, none, some (.istore_n 1, 1), some (.iload_n 1, 1), some (.ifCond .ne 7, 3), none, none, some (.fconst 0, 1), some (.goto 13, 3), none, none, some (.fconst 1, 1), some (.aload_n 0, 1), some (.invokevirtual 341, 3), none, none, some (.i2f, 1), some (.iload_n 1, 1), some (.i2f, 1), some (.fdiv, 1), some (.fsub, 1), some (.freturn, 1)]
def g_m_X8_scatter : ri_Mt := (RX8, yX8_scatter, cX8_scatter, 2, (some .float), g_co_X8_scatter, 8)
def g_co_X8_sizes : List (Option (Instr × Nat)) := [some (.iconst 0, 1), some (.istore_n 1, 1), some (.iconst 0, 1), some (.istore_n 2, 1), some (.iload_n 2, 1), some (.bipush 8, 2), none, some (.if_icmp .ge 32, 3), none, none, some (.iload_n 1, 1), some (.aload_n 0, 1), some (.iload_n 2, 1), some (.iconst 0, 1), some (.invokevirtual 67, 3), none, none, some (.iconst 1, 1), some (.if_icmp .ne 12, 3), none, none, some (.aload_n 0, 1), some (.iload_n 2, 1), some (.iconst 2, 1), some (.invokevirtual 67, 3), none, none, some (.goto 4, 3), none, none, some (.iconst 0, 1), some (.iadd, 1), some (.istore_n 1, 1), some (.iinc 2 1, 3), none, none, some (.goto (-32), 3), none, none, some (.iload_n 1, 1), some (.ireturn, 1)]
def g_m_X8_sizes : ri_Mt := (RX8, yX8_sizes, cX8_sizes, 3, (some .int), g_co_X8_sizes, 8)
def g_co_X8_used : List (Option (Instr × Nat)) := [some (.aload_n 0, 1), some (.iconst 0, 1), some (.putfield 51, 3), none, none, some (.aload_n 0, 1), some (.invokevirtual 352, 3), none, none, some (.i2d, 1), some (.aload_n 0, 1), some (.getfield 7, 3), none, none, some (.iconst 0, 1), some (.iaload, 1), some (.aload_n 0, 1), some (.getfield 7, 3), none, none, some (.iconst 1, 1), some (.iaload, 1), some (.isub, 1), some (.aload_n 0, 1), some (.getfield 7, 3), none, none, some (.iconst 2, 1), some (.iaload, 1), some (.isub, 1), some (.i2d, 1), some (.ddiv, 1), some (.dreturn, 1)]
def g_m_X8_used : ri_Mt := (RX8, yX8_used, cX8_used, 1, (some .double), g_co_X8_used, 8)
def g_co_X8_slackOf : List (Option (Instr × Nat)) := [some (.aload_n 0, 1), some (.iload_n 1, 1), some (.iconst 0, 1), some (.invokevirtual 67, 3), none, none, some (.iconst 1, 1), some (.if_icmp .ne 27, 3), none, none, some (.aload_n 0, 1), some (.iload_n 1, 1), some (.invokevirtual 355, 3), none, none, some (.ifCond .ne 19, 3), none, none, some (.aload_n 0, 1), some (.iload_n 1, 1), some (.iconst 2, 1), some (.invokevirtual 67, 3), none, none, some (.aload_n 0, 1), some (.iload_n 1, 1), some (.iconst 3, 1), some (.invokevirtual 67, 3), none, none, some (.isub, 1), some (.goto 4, 3), none, none, some (.iconst 0, 1), some (.ireturn, 1)]
def g_m_X8_slackOf : ri_Mt := (RX8, yX8_slackOf, cX8_slackOf, 2, (some .int), g_co_X8_slackOf, 8)
def g_co_X8_slack : List (Option (Instr × Nat)) := [some (.aload_n 0, 1), some (.iconst 0, 1), some (.putfield 51, 3), none, none, some (.iconst 0, 1), some (.istore_n 1, 1), some (.iconst 0, 1), some (.istore_n 2, 1), some (.iload_n 2, 1), some (.bipush 8, 2), none, some (.if_icmp .ge 17, 3), none, none, some (.iload_n 1, 1), some (.aload_n 0, 1), some (.iload_n 2, 1), some (.invokevirtual 358, 3), none, none, some (.iadd, 1), some (.istore_n 1, 1), some (.iinc 2 1, 3), none, none, some (.goto (-17), 3), none, none, some (.iload_n 1, 1), some (.ireturn, 1)]
def g_m_X8_slack : ri_Mt := (RX8, yX8_slack, cX8_slack, 3, (some .int), g_co_X8_slack, 8)
def g_co_X8_ofKind : List (Option (Instr × Nat)) := [some (.aload_n 0, 1), some (.iconst 0, 1), some (.putfield 51, 3), none, none, some (.aload_n 0, 1), some (.iload_n 1, 1), some (.i2l, 1), some (.lconst 0, 1), some (.ldc2_w 361, 3), none, none, some (.invokestatic 63, 3), none, none, some (.ifCond .ne 7, 3), none, none, some (.iconst 1, 1), some (.goto 4, 3), none, none, some (.iconst 0, 1), some (.iconst 1, 1), some (.invokevirtual 303, 3), none, none, some (.ifCond .eq 5, 3), none, none, some (.iconst 0, 1), some (.ireturn, 1), some (.iconst 0, 1), some (.istore_n 2, 1), some (.iconst 0, 1), some (.istore_n 3, 1), some (.iload_n 3, 1), some (.bipush 8, 2), none, some (.if_icmp .ge 42, 3), none, none, some (.iload_n 2, 1), some (.aload_n 0, 1), some (.iload_n 3, 1), some (.iconst 0, 1), some (.invokevirtual 67, 3), none, none, some (.iconst 1, 1), some (.if_icmp .ne 22, 3), none, none, some (.aload_n 0, 1), some (.iload_n 3, 1), some (.iconst 4, 1), some (.invokevirtual 67, 3), none, none, some (.iload_n 1, 1), some (.if_icmp .ne 12, 3), none, none, some (.aload_n 0, 1), some (.iload_n 3, 1), some (.iconst 2, 1), some (.invokevirtual 67, 3), none, none, some (.goto 4, 3), none, none, some (.iconst 0, 1), some (.iadd, 1), some (.istore_n 2, 1), some (.iinc 3 1, 3), none, none, some (.goto (-42), 3), none, none, some (.iload_n 2, 1), some (.ireturn, 1)]
def g_m_X8_ofKind : ri_Mt := (RX8, yX8_ofKind, cX8_ofKind, 4, (some .int), g_co_X8_ofKind, 8)
def g_co_X8_isTold : List (Option (Instr × Nat)) := [some (.iload_n 0, 1), some (.i2l, 1), some (.lconst 0, 1), some (.ldc2_w 361, 3), none, none, some (.invokestatic 63, 3), none, none, some (.ifCond .eq 18, 3), none, none, some (.iload_n 1, 1), some (.i2l, 1), some (.lconst 1, 1), some (.iload_n 2, 1), some (.i2l, 1), some (.invokestatic 63, 3), none, none, some (.ifCond .eq 7, 3), none, none, some (.iconst 1, 1), some (.goto 4, 3), none, none, some (.iconst 0, 1), some (.ireturn, 1)]
def g_m_X8_isTold : ri_Mt := (RX8, yX8_isTold, cX8_isTold, 3, (some .boolean), g_co_X8_isTold, 8)
def g_co_X8_add : List (Option (Instr × Nat)) := [some (.aload_n 0, 1), some (.iconst 0, 1), some (.putfield 51, 3), none, none, some (.aload_n 0, 1), some (.iload_n 3, 1), some (.iload 4, 2), none, some (.iload_n 2, 1), some (.invokestatic 363, 3), none, none, some (.ifCond .eq 12, 3), none, none, some (.aload_n 0, 1), some (.iload_n 1, 1), some (.iload_n 2, 1), some (.invokevirtual 349, 3), none, none, some (.ifCond .eq 7, 3), none, none, some (.iconst 1, 1), some (.goto 4, 3), none, none, some (.iconst 0, 1), some (.iconst 1, 1), some (.invokevirtual 303, 3), none, none, some (.ifCond .ne 25, 3), none, none, some (.aload_n 0, 1), some (.aload_n 0, 1), some (.invokevirtual 298, 3), none, none, some (.bipush 8, 2), none, some (.if_icmp .ne 7, 3), none, none, some (.iconst 1, 1), some (.goto 4, 3), none, none, some (.iconst 0, 1), some (.iconst 2, 1), some (.invokevirtual 303, 3), none, none, some (.ifCond .eq 5, 3), none, none, some (.iconst 0, 1), some (.ireturn, 1), some (.aload_n 0, 1), some (.invokevirtual 366, 3), none, none, some (.aload_n 0, 1), some (.iload_n 1, 1), some (.iload_n 2, 1), some (.iload_n 3, 1), some (.iload 4, 2), none, some (.invokevirtual 250, 3), none, none, some (.ireturn, 1)]
def g_m_X8_add : ri_Mt := (RX8, yX8_add, cX8_add, 5, (some .int), g_co_X8_add, 8)
def g_co_X8_addBy : List (Option (Instr × Nat)) := [some (.aload_n 0, 1), some (.iconst 0, 1), some (.putfield 51, 3), none, none, some (.aload_n 0, 1), some (.iload_n 2, 1), some (.iload_n 3, 1), some (.iload_n 1, 1), some (.invokestatic 363, 3), none, none, some (.ifCond .eq 16, 3), none, none, some (.iload 4, 2), none, some (.i2l, 1), some (.lconst 0, 1), some (.ldc2_w 344, 3), none, none, some (.invokestatic 63, 3), none, none, some (.ifCond .ne 7, 3), none, none, some (.iconst 1, 1), some (.goto 4, 3), none, none, some (.iconst 0, 1), some (.iconst 1, 1), some (.invokevirtual 303, 3), none, none, some (.ifCond .eq 5, 3), none, none, some (.iconst 0, 1), some (.ireturn, 1), some (.aload_n 0, 1), some (.iload_n 1, 1), some (.iload 4, 2), none, some (.invokevirtual 346, 3), none, none, some (.istore 5, 2), none, some (.aload_n 0, 1), some (.aload_n 0, 1), some (.invokevirtual 298, 3), none, none, some (.bipush 8, 2), none, some (.if_icmp .eq 9, 3), none, none, some (.iload 5, 2), none, some (.iconst (-1), 1), some (.if_icmp .ne 7, 3), none, none, some (.iconst 1, 1), some (.goto 4, 3), none, none, some (.iconst 0, 1), some (.iconst 2, 1), some (.invokevirtual 303, 3), none, none, some (.ifCond .eq 5, 3), none, none, some (.iconst 0, 1), some (.ireturn, 1), some (.aload_n 0, 1), some (.invokevirtual 366, 3), none, none, some (.aload_n 0, 1), some (.iload 5, 2), none, some (.iload_n 1, 1), some (.iload_n 2, 1), some (.iload_n 3, 1), some (.invokevirtual 250, 3), none, none, some (.ireturn, 1)]
def g_m_X8_addBy : ri_Mt := (RX8, yX8_addBy, cX8_addBy, 6, (some .int), g_co_X8_addBy, 8)
def g_co_X8_remove : List (Option (Instr × Nat)) := [some (.aload_n 0, 1), some (.iconst 0, 1), some (.putfield 51, 3), none, none, some (.aload_n 0, 1), some (.aload_n 0, 1), some (.iload_n 1, 1), some (.invokevirtual 313, 3), none, none, some (.ifCond .eq 15, 3), none, none, some (.aload_n 0, 1), some (.iload_n 1, 1), some (.invokevirtual 355, 3), none, none, some (.ifCond .eq 7, 3), none, none, some (.iconst 1, 1), some (.goto 4, 3), none, none, some (.iconst 0, 1), some (.iconst 1, 1), some (.invokevirtual 303, 3), none, none, some (.ifCond .ne 12, 3), none, none, some (.aload_n 0, 1), some (.iload_n 1, 1), some (.iconst 2, 1), some (.invokevirtual 318, 3), none, none, some (.ifCond .eq 5, 3), none, none, some (.iconst 0, 1), some (.ireturn, 1), some (.aload_n 0, 1), some (.invokevirtual 366, 3), none, none, some (.aload_n 0, 1), some (.iload_n 1, 1), some (.iconst 0, 1), some (.iconst 0, 1), some (.invokevirtual 78, 3), none, none, some (.aload_n 0, 1), some (.iload_n 1, 1), some (.iconst 2, 1), some (.invokevirtual 67, 3), none, none, some (.ireturn, 1)]
def g_m_X8_remove : ri_Mt := (RX8, yX8_remove, cX8_remove, 2, (some .int), g_co_X8_remove, 8)
def g_co_X8_lock : List (Option (Instr × Nat)) := [some (.aload_n 0, 1), some (.iconst 0, 1), some (.putfield 51, 3), none, none, some (.aload_n 0, 1), some (.iload_n 1, 1), some (.iconst 1, 1), some (.invokevirtual 318, 3), none, none, some (.ifCond .eq 5, 3), none, none, some (.iconst 0, 1), some (.ireturn, 1), some (.aload_n 0, 1), some (.invokevirtual 366, 3), none, none, some (.aload_n 0, 1), some (.iload_n 1, 1), some (.iconst 5, 1), some (.invokevirtual 67, 3), none, none, some (.iconst 1, 1), some (.if_icmp .ne 7, 3), none, none, some (.iconst 1, 1), some (.goto 4, 3), none, none, some (.iconst 0, 1), some (.istore_n 3, 1), some (.aload_n 0, 1), some (.iload_n 1, 1), some (.iconst 5, 1), some (.iload_n 2, 1), some (.ifCond .eq 7, 3), none, none, some (.iconst 1, 1), some (.goto 4, 3), none, none, some (.iconst 0, 1), some (.invokevirtual 78, 3), none, none, some (.iload_n 3, 1), some (.ireturn, 1)]
def g_m_X8_lock : ri_Mt := (RX8, yX8_lock, cX8_lock, 4, (some .boolean), g_co_X8_lock, 8)
def g_co_X8_whyNotSized : List (Option (Instr × Nat)) := [some (.iload_n 2, 1), some (.aload_n 0, 1), some (.iload_n 1, 1), some (.iconst 3, 1), some (.invokevirtual 67, 3), none, none, some (.if_icmp .ge 5, 3), none, none, some (.iconst 3, 1), some (.ireturn, 1), some (.aload_n 0, 1), some (.aload_n 0, 1), some (.iload_n 1, 1), some (.iconst 1, 1), some (.invokevirtual 67, 3), none, none, some (.i2l, 1), some (.iload_n 2, 1), some (.i2l, 1), some (.invokevirtual 103, 3), none, none, some (.ifCond .ne 5, 3), none, none, some (.iconst 4, 1), some (.ireturn, 1), some (.aload_n 0, 1), some (.aload_n 0, 1), some (.iload_n 1, 1), some (.iconst 1, 1), some (.invokevirtual 67, 3), none, none, some (.i2l, 1), some (.iload_n 2, 1), some (.i2l, 1), some (.iload_n 1, 1), some (.invokevirtual 107, 3), none, none, some (.ifCond .eq 5, 3), none, none, some (.iconst 5, 1), some (.ireturn, 1), some (.aload_n 0, 1), some (.aload_n 0, 1), some (.iload_n 1, 1), some (.iconst 1, 1), some (.invokevirtual 67, 3), none, none, some (.aload_n 0, 1), some (.iload_n 1, 1), some (.iconst 2, 1), some (.invokevirtual 67, 3), none, none, some (.iadd, 1), some (.i2l, 1), some (.iload_n 2, 1), some (.aload_n 0, 1), some (.iload_n 1, 1), some (.iconst 2, 1), some (.invokevirtual 67, 3), none, none, some (.isub, 1), some (.i2l, 1), some (.invokevirtual 111, 3), none, none, some (.ifCond .eq 8, 3), none, none, some (.bipush 6, 2), none, some (.goto 4, 3), none, none, some (.iconst 0, 1), some (.ireturn, 1)]
def g_m_X8_whyNotSized : ri_Mt := (RX8, yX8_whyNotSized, cX8_whyNotSized, 3, (some .int), g_co_X8_whyNotSized, 8)
def g_co_X8_whyNotResized : List (Option (Instr × Nat)) := [some (.aload_n 0, 1), some (.iload_n 1, 1), some (.iconst 5, 1), some (.invokevirtual 67, 3), none, none, some (.iconst 1, 1), some (.if_icmp .ne 7, 3), none, none, some (.iconst 1, 1), some (.goto 21, 3), none, none, some (.aload_n 0, 1), some (.iload_n 1, 1), some (.invokevirtual 71, 3), none, none, some (.ifCond .eq 7, 3), none, none, some (.iconst 2, 1), some (.goto 9, 3), none, none, some (.aload_n 0, 1), some (.iload_n 1, 1), some (.iload_n 2, 1), some (.invokevirtual 369, 3), none, none, some (.ireturn, 1)]
def g_m_X8_whyNotResized : ri_Mt := (RX8, yX8_whyNotResized, cX8_whyNotResized, 3, (some .int), g_co_X8_whyNotResized, 8)
def g_co_X8_resizeReason : List (Option (Instr × Nat)) := [some (.aload_n 0, 1), some (.iconst 0, 1), some (.putfield 51, 3), none, none, some (.aload_n 0, 1), some (.iload_n 1, 1), some (.iconst 1, 1), some (.invokevirtual 318, 3), none, none, some (.ifCond .eq 7, 3), none, none, some (.iconst 0, 1), some (.goto 9, 3), none, none, some (.aload_n 0, 1), some (.iload_n 1, 1), some (.iload_n 2, 1), some (.invokevirtual 372, 3), none, none, some (.ireturn, 1)]
def g_m_X8_resizeReason : ri_Mt := (RX8, yX8_resizeReason, cX8_resizeReason, 3, (some .int), g_co_X8_resizeReason, 8)
def g_co_X8_resizes : List (Option (Instr × Nat)) := [some (.aload_n 0, 1), some (.iload_n 1, 1), some (.iconst 2, 1), some (.invokevirtual 67, 3), none, none, some (.istore_n 3, 1), some (.aload_n 0, 1), some (.iload_n 1, 1), some (.iconst 2, 1), some (.iload_n 2, 1), some (.invokevirtual 78, 3), none, none, some (.aload_n 0, 1), some (.iload_n 1, 1), some (.iload_n 3, 1), some (.invokevirtual 82, 3), none, none, some (.return_, 1)]
def g_m_X8_resizes : ri_Mt := (RX8, yX8_resizes, cX8_resizes, 4, none, g_co_X8_resizes, 8)
def g_co_X8_resize : List (Option (Instr × Nat)) := [some (.aload_n 0, 1), some (.iconst 0, 1), some (.putfield 51, 3), none, none, some (.aload_n 0, 1), some (.aload_n 0, 1), some (.iload_n 1, 1), some (.invokevirtual 313, 3), none, none, some (.ifCond .eq 16, 3), none, none, some (.aload_n 0, 1), some (.iload_n 1, 1), some (.iload_n 2, 1), some (.invokevirtual 372, 3), none, none, some (.ifCond .eq 7, 3), none, none, some (.iconst 1, 1), some (.goto 4, 3), none, none, some (.iconst 0, 1), some (.iconst 1, 1), some (.invokevirtual 303, 3), none, none, some (.ifCond .ne 12, 3), none, none, some (.aload_n 0, 1), some (.iload_n 1, 1), some (.iconst 2, 1), some (.invokevirtual 318, 3), none, none, some (.ifCond .eq 5, 3), none, none, some (.iconst 0, 1), some (.ireturn, 1), some (.aload_n 0, 1), some (.invokevirtual 366, 3), none, none, some (.aload_n 0, 1), some (.iload_n 1, 1), some (.iconst 2, 1), some (.invokevirtual 67, 3), none, none, some (.istore_n 3, 1), some (.aload_n 0, 1), some (.iload_n 1, 1), some (.iload_n 2, 1), some (.invokevirtual 375, 3), none, none, some (.iload_n 3, 1), some (.ireturn, 1)]
def g_m_X8_resize : ri_Mt := (RX8, yX8_resize, cX8_resize, 4, (some .int), g_co_X8_resize, 8)
def g_co_X8_roundUp : List (Option (Instr × Nat)) := [some (.aload_n 0, 1), some (.iconst 0, 1), some (.putfield 51, 3), none, none, some (.aload_n 0, 1), some (.iload_n 1, 1), some (.invokevirtual 313, 3), none, none, some (.ifCond .eq 28, 3), none, none, some (.aload_n 0, 1), some (.iload_n 1, 1), some (.iconst 2, 1), some (.invokevirtual 67, 3), none, none, some (.aload_n 0, 1), some (.getfield 7, 3), none, none, some (.iconst 3, 1), some (.iaload, 1), some (.invokestatic 120, 3), none, none, some (.aload_n 0, 1), some (.getfield 7, 3), none, none, some (.iconst 3, 1), some (.iaload, 1), some (.imul, 1), some (.goto 4, 3), none, none, some (.iconst 0, 1), some (.istore_n 2, 1), some (.aload_n 0, 1), some (.aload_n 0, 1), some (.iload_n 1, 1), some (.invokevirtual 313, 3), none, none, some (.ifCond .eq 16, 3), none, none, some (.aload_n 0, 1), some (.iload_n 1, 1), some (.iload_n 2, 1), some (.invokevirtual 372, 3), none, none, some (.ifCond .eq 7, 3), none, none, some (.iconst 1, 1), some (.goto 4, 3), none, none, some (.iconst 0, 1), some (.iconst 1, 1), some (.invokevirtual 303, 3), none, none, some (.ifCond .ne 12, 3), none, none, some (.aload_n 0, 1), some (.iload_n 1, 1), some (.iconst 2, 1), some (.invokevirtual 318, 3), none, none, some (.ifCond .eq 5, 3), none, none, some (.iconst 0, 1), some (.ireturn, 1), some (.aload_n 0, 1), some (.invokevirtual 366, 3), none, none, some (.aload_n 0, 1), some (.iload_n 1, 1), some (.iload_n 2, 1), some (.invokevirtual 375, 3), none, none, some (.iload_n 2, 1), some (.ireturn, 1)]
def g_m_X8_roundUp : ri_Mt := (RX8, yX8_roundUp, cX8_roundUp, 3, (some .int), g_co_X8_roundUp, 8)
def g_co_X8_setMinimum : List (Option (Instr × Nat)) := [some (.aload_n 0, 1), some (.iconst 0, 1), some (.putfield 51, 3), none, none, some (.aload_n 0, 1), some (.aload_n 0, 1), some (.iload_n 1, 1), some (.invokevirtual 313, 3), none, none, some (.ifCond .eq 23, 3), none, none, some (.iload_n 2, 1), some (.i2l, 1), some (.lconst 1, 1), some (.aload_n 0, 1), some (.iload_n 1, 1), some (.iconst 2, 1), some (.invokevirtual 67, 3), none, none, some (.i2l, 1), some (.invokestatic 63, 3), none, none, some (.ifCond .ne 7, 3), none, none, some (.iconst 1, 1), some (.goto 4, 3), none, none, some (.iconst 0, 1), some (.iconst 1, 1), some (.invokevirtual 303, 3), none, none, some (.ifCond .ne 12, 3), none, none, some (.aload_n 0, 1), some (.iload_n 1, 1), some (.iconst 2, 1), some (.invokevirtual 318, 3), none, none, some (.ifCond .eq 5, 3), none, none, some (.iconst 0, 1), some (.ireturn, 1), some (.aload_n 0, 1), some (.invokevirtual 366, 3), none, none, some (.aload_n 0, 1), some (.iload_n 1, 1), some (.iconst 3, 1), some (.invokevirtual 67, 3), none, none, some (.istore_n 3, 1), some (.aload_n 0, 1), some (.iload_n 1, 1), some (.iconst 3, 1), some (.iload_n 2, 1), some (.invokevirtual 78, 3), none, none, some (.iload_n 3, 1), some (.ireturn, 1)]
def g_m_X8_setMinimum : ri_Mt := (RX8, yX8_setMinimum, cX8_setMinimum, 4, (some .int), g_co_X8_setMinimum, 8)
def g_co_X8_growsTo : List (Option (Instr × Nat)) := [some (.aload_n 0, 1), some (.iconst 0, 1), some (.putfield 51, 3), none, none, some (.aload_n 0, 1), some (.iload_n 1, 1), some (.iconst 1, 1), some (.invokevirtual 318, 3), none, none, some (.ifCond .eq 5, 3), none, none, some (.iconst 0, 1), some (.ireturn, 1), some (.aload_n 0, 1), some (.getfield 7, 3), none, none, some (.iconst 0, 1), some (.iaload, 1), some (.istore_n 2, 1), some (.aload_n 0, 1), some (.iload_n 1, 1), some (.iload_n 2, 1), some (.invokevirtual 369, 3), none, none, some (.ifCond .eq 9, 3), none, none, some (.iinc 2 (-1), 3), none, none, some (.goto (-12), 3), none, none, some (.iload_n 2, 1), some (.ireturn, 1)]
def g_m_X8_growsTo : ri_Mt := (RX8, yX8_growsTo, cX8_growsTo, 3, (some .int), g_co_X8_growsTo, 8)
def g_co_X8_split : List (Option (Instr × Nat)) := [some (.aload_n 0, 1), some (.iconst 0, 1), some (.putfield 51, 3), none, none, some (.aload_n 0, 1), some (.aload_n 0, 1), some (.iload_n 1, 1), some (.invokevirtual 313, 3), none, none, some (.ifCond .eq 31, 3), none, none, some (.iload_n 2, 1), some (.i2l, 1), some (.aload_n 0, 1), some (.iload_n 1, 1), some (.iconst 3, 1), some (.invokevirtual 67, 3), none, none, some (.i2l, 1), some (.aload_n 0, 1), some (.iload_n 1, 1), some (.iconst 2, 1), some (.invokevirtual 67, 3), none, none, some (.iconst 1, 1), some (.isub, 1), some (.i2l, 1), some (.invokestatic 63, 3), none, none, some (.ifCond .ne 7, 3), none, none, some (.iconst 1, 1), some (.goto 4, 3), none, none, some (.iconst 0, 1), some (.iconst 1, 1), some (.invokevirtual 303, 3), none, none, some (.ifCond .eq 5, 3), none, none, some (.iconst 0, 1), some (.ireturn, 1), some (.aload_n 0, 1), some (.iload_n 1, 1), some (.invokevirtual 313, 3), none, none, some (.ifCond .eq 42, 3), none, none, some (.aload_n 0, 1), some (.iload_n 1, 1), some (.invokevirtual 355, 3), none, none, some (.ifCond .ne 30, 3), none, none, some (.aload_n 0, 1), some (.iload_n 1, 1), some (.iconst 1, 1), some (.invokevirtual 67, 3), none, none, some (.iload_n 2, 1), some (.iadd, 1), some (.aload_n 0, 1), some (.getfield 7, 3), none, none, some (.iconst 3, 1), some (.iaload, 1), some (.irem, 1), some (.ifCond .ne 12, 3), none, none, some (.aload_n 0, 1), some (.invokevirtual 298, 3), none, none, some (.bipush 8, 2), none, some (.if_icmp .ne 7, 3), none, none, some (.iconst 1, 1), some (.goto 4, 3), none, none, some (.iconst 0, 1), some (.istore_n 3, 1), some (.aload_n 0, 1), some (.iload_n 3, 1), some (.iconst 2, 1), some (.invokevirtual 303, 3), none, none, some (.ifCond .ne 12, 3), none, none, some (.aload_n 0, 1), some (.iload_n 1, 1), some (.iconst 3, 1), some (.invokevirtual 318, 3), none, none, some (.ifCond .eq 5, 3), none, none, some (.iconst 0, 1), some (.ireturn, 1), some (.aload_n 0, 1), some (.invokevirtual 366, 3), none, none, some (.aload_n 0, 1), some (.iload_n 1, 1), some (.iconst 2, 1), some (.invokevirtual 67, 3), none, none, some (.iload_n 2, 1), some (.isub, 1), some (.istore 4, 2), none, some (.aload_n 0, 1), some (.iload_n 1, 1), some (.iconst 2, 1), some (.iload_n 2, 1), some (.invokevirtual 78, 3), none, none, some (.aload_n 0, 1), some (.aload_n 0, 1), some (.iload_n 1, 1), some (.iconst 1, 1), some (.invokevirtual 67, 3), none, none, some (.iload_n 2, 1), some (.iadd, 1), some (.iload 4, 2), none, some (.aload_n 0, 1), some (.iload_n 1, 1), some (.iconst 4, 1), some (.invokevirtual 67, 3), none, none, some (.iconst 1, 1), some (.invokevirtual 250, 3), none, none, some (.ireturn, 1)]
def g_m_X8_split : ri_Mt := (RX8, yX8_split, cX8_split, 5, (some .int), g_co_X8_split, 8)
def g_co_X8_neighbour : List (Option (Instr × Nat)) := [some (.iconst 0, 1), some (.istore_n 2, 1), some (.iload_n 2, 1), some (.bipush 8, 2), none, some (.if_icmp .ge 43, 3), none, none, some (.aload_n 0, 1), some (.iload_n 2, 1), some (.iconst 0, 1), some (.invokevirtual 67, 3), none, none, some (.iconst 1, 1), some (.if_icmp .ne 27, 3), none, none, some (.aload_n 0, 1), some (.iload_n 2, 1), some (.iconst 1, 1), some (.invokevirtual 67, 3), none, none, some (.aload_n 0, 1), some (.iload_n 1, 1), some (.iconst 1, 1), some (.invokevirtual 67, 3), none, none, some (.aload_n 0, 1), some (.iload_n 1, 1), some (.iconst 2, 1), some (.invokevirtual 67, 3), none, none, some (.iadd, 1), some (.if_icmp .ne 5, 3), none, none, some (.iload_n 2, 1), some (.ireturn, 1), some (.iinc 2 1, 3), none, none, some (.goto (-43), 3), none, none, some (.iconst (-1), 1), some (.ireturn, 1)]
def g_m_X8_neighbour : ri_Mt := (RX8, yX8_neighbour, cX8_neighbour, 3, (some .int), g_co_X8_neighbour, 8)
def g_co_X8_canJoin : List (Option (Instr × Nat)) := [some (.aload_n 0, 1), some (.iload_n 1, 1), some (.invokevirtual 378, 3), none, none, some (.istore_n 2, 1), some (.iload_n 2, 1), some (.iconst (-1), 1), some (.if_icmp .eq 38, 3), none, none, some (.aload_n 0, 1), some (.iload_n 2, 1), some (.iconst 4, 1), some (.invokevirtual 67, 3), none, none, some (.aload_n 0, 1), some (.iload_n 1, 1), some (.iconst 4, 1), some (.invokevirtual 67, 3), none, none, some (.if_icmp .ne 23, 3), none, none, some (.aload_n 0, 1), some (.iload_n 1, 1), some (.invokevirtual 355, 3), none, none, some (.ifCond .ne 15, 3), none, none, some (.aload_n 0, 1), some (.iload_n 2, 1), some (.invokevirtual 355, 3), none, none, some (.ifCond .ne 7, 3), none, none, some (.iconst 1, 1), some (.goto 4, 3), none, none, some (.iconst 0, 1), some (.ireturn, 1)]
def g_m_X8_canJoin : ri_Mt := (RX8, yX8_canJoin, cX8_canJoin, 3, (some .boolean), g_co_X8_canJoin, 8)
def g_co_X8_join : List (Option (Instr × Nat)) := [some (.aload_n 0, 1), some (.iconst 0, 1), some (.putfield 51, 3), none, none, some (.aload_n 0, 1), some (.aload_n 0, 1), some (.iload_n 1, 1), some (.invokevirtual 313, 3), none, none, some (.ifCond .eq 15, 3), none, none, some (.aload_n 0, 1), some (.iload_n 1, 1), some (.invokevirtual 381, 3), none, none, some (.ifCond .ne 7, 3), none, none, some (.iconst 1, 1), some (.goto 4, 3), none, none, some (.iconst 0, 1), some (.iconst 1, 1), some (.invokevirtual 303, 3), none, none, some (.ifCond .ne 12, 3), none, none, some (.aload_n 0, 1), some (.iload_n 1, 1), some (.iconst 2, 1), some (.invokevirtual 318, 3), none, none, some (.ifCond .eq 5, 3), none, none, some (.iconst 0, 1), some (.ireturn, 1), some (.aload_n 0, 1), some (.invokevirtual 366, 3), none, none, some (.aload_n 0, 1), some (.iload_n 1, 1), some (.invokevirtual 378, 3), none, none, some (.istore_n 2, 1), some (.aload_n 0, 1), some (.iload_n 2, 1), some (.iconst 0, 1), some (.iconst 0, 1), some (.invokevirtual 78, 3), none, none, some (.aload_n 0, 1), some (.iload_n 1, 1), some (.aload_n 0, 1), some (.iload_n 1, 1), some (.iconst 2, 1), some (.invokevirtual 67, 3), none, none, some (.aload_n 0, 1), some (.iload_n 2, 1), some (.iconst 2, 1), some (.invokevirtual 67, 3), none, none, some (.iadd, 1), some (.invokevirtual 375, 3), none, none, some (.iload_n 2, 1), some (.ireturn, 1)]
def g_m_X8_join : ri_Mt := (RX8, yX8_join, cX8_join, 3, (some .int), g_co_X8_join, 8)
def g_co_X8_shrinkAll : List (Option (Instr × Nat)) := [some (.aload_n 0, 1), some (.iconst 0, 1), some (.putfield 51, 3), none, none, some (.aload_n 0, 1), some (.invokevirtual 366, 3), none, none, some (.iconst 0, 1), some (.istore_n 1, 1), some (.iconst 0, 1), some (.istore_n 2, 1), some (.iload_n 2, 1), some (.bipush 8, 2), none, some (.if_icmp .ge 33, 3), none, none, some (.aload_n 0, 1), some (.iload_n 2, 1), some (.invokevirtual 358, 3), none, none, some (.istore_n 3, 1), some (.aload_n 0, 1), some (.iload_n 2, 1), some (.iconst 2, 1), some (.aload_n 0, 1), some (.iload_n 2, 1), some (.iconst 2, 1), some (.invokevirtual 67, 3), none, none, some (.iload_n 3, 1), some (.isub, 1), some (.invokevirtual 78, 3), none, none, some (.iload_n 1, 1), some (.iload_n 3, 1), some (.iadd, 1), some (.istore_n 1, 1), some (.iinc 2 1, 3), none, none, some (.goto (-33), 3), none, none, some (.iload_n 1, 1), some (.ireturn, 1)]
def g_m_X8_shrinkAll : ri_Mt := (RX8, yX8_shrinkAll, cX8_shrinkAll, 4, (some .int), g_co_X8_shrinkAll, 8)
def g_co_X8_wipe : List (Option (Instr × Nat)) := [some (.aload_n 0, 1), some (.iconst 0, 1), some (.putfield 51, 3), none, none, some (.aload_n 0, 1), some (.invokevirtual 366, 3), none, none, some (.iconst 0, 1), some (.istore_n 1, 1), some (.iconst 0, 1), some (.istore_n 2, 1), some (.iload_n 2, 1), some (.aload_n 0, 1), some (.getfield 7, 3), none, none, some (.iconst 0, 1), some (.iaload, 1), some (.if_icmp .ge 46, 3), none, none, some (.aload_n 0, 1), some (.getfield 7, 3), none, none, some (.bipush 88, 2), none, some (.iload_n 2, 1), some (.iadd, 1), some (.iaload, 1), some (.ifCond .eq 28, 3), none, none, some (.aload_n 0, 1), some (.iload_n 2, 1), some (.invokevirtual 327, 3), none, none, some (.iconst (-1), 1), some (.if_icmp .eq 6, 3), none, none, some (.goto 16, 3), none, none, some (.aload_n 0, 1), some (.getfield 7, 3), none, none, some (.bipush 88, 2), none, some (.iload_n 2, 1), some (.iadd, 1), some (.iconst 0, 1), some (.iastore, 1), some (.iinc 1 1, 3), none, none, some (.iinc 2 1, 3), none, none, some (.goto (-50), 3), none, none, some (.iload_n 1, 1), some (.ireturn, 1)]
def g_m_X8_wipe : ri_Mt := (RX8, yX8_wipe, cX8_wipe, 3, (some .int), g_co_X8_wipe, 8)
def g_co_X8_set : List (Option (Instr × Nat)) := [some (.aload_n 0, 1), some (.iconst 0, 1), some (.putfield 51, 3), none, none, some (.aload_n 0, 1), some (.iload_n 1, 1), some (.iconst 3, 1), some (.if_icmp .ne 23, 3), none, none, some (.iload_n 2, 1), some (.i2l, 1), some (.lconst 1, 1), some (.ldc2_w 384, 3), none, none, some (.invokestatic 63, 3), none, none, some (.ifCond .ne 7, 3), none, none, some (.iconst 1, 1), some (.goto 29, 3), none, none, some (.iconst 0, 1), some (.goto 25, 3), none, none, some (.iload_n 1, 1), some (.iconst 4, 1), some (.if_icmp .ne 15, 3), none, none, some (.iload_n 2, 1), some (.i2l, 1), some (.lconst 1, 1), some (.ldc2_w 386, 3), none, none, some (.invokestatic 63, 3), none, none, some (.ifCond .ne 7, 3), none, none, some (.iconst 1, 1), some (.goto 4, 3), none, none, some (.iconst 0, 1), some (.iconst 1, 1), some (.invokevirtual 303, 3), none, none, some (.ifCond .eq 5, 3), none, none, some (.iconst 0, 1), some (.ireturn, 1), some (.aload_n 0, 1), some (.invokevirtual 366, 3), none, none, some (.aload_n 0, 1), some (.getfield 7, 3), none, none, some (.iload_n 1, 1), some (.iaload, 1), some (.istore_n 3, 1), some (.aload_n 0, 1), some (.getfield 7, 3), none, none, some (.iload_n 1, 1), some (.iload_n 2, 1), some (.iastore, 1), some (.iload_n 3, 1), some (.ireturn, 1)]
def g_m_X8_set : ri_Mt := (RX8, yX8_set, cX8_set, 4, (some .int), g_co_X8_set, 8)
def g_co_X8_moveReason : List (Option (Instr × Nat)) := [some (.aload_n 0, 1), some (.iconst 0, 1), some (.putfield 51, 3), none, none, some (.aload_n 0, 1), some (.iload_n 1, 1), some (.iconst 1, 1), some (.invokevirtual 318, 3), none, none, some (.ifCond .eq 7, 3), none, none, some (.iconst 0, 1), some (.goto 9, 3), none, none, some (.aload_n 0, 1), some (.iload_n 1, 1), some (.iload_n 2, 1), some (.invokevirtual 183, 3), none, none, some (.ireturn, 1)]
def g_m_X8_moveReason : ri_Mt := (RX8, yX8_moveReason, cX8_moveReason, 3, (some .int), g_co_X8_moveReason, 8)
def g_co_X8_stepsFor : List (Option (Instr × Nat)) := [some (.aload_n 0, 1), some (.iconst 0, 1), some (.putfield 51, 3), none, none, some (.aload_n 0, 1), some (.iload_n 1, 1), some (.iconst 1, 1), some (.invokevirtual 318, 3), none, none, some (.ifCond .eq 5, 3), none, none, some (.iconst 0, 1), some (.ireturn, 1), some (.aload_n 0, 1), some (.iload_n 1, 1), some (.iload_n 2, 1), some (.invokevirtual 183, 3), none, none, some (.ifCond .ne 12, 3), none, none, some (.aload_n 0, 1), some (.iload_n 1, 1), some (.iload_n 2, 1), some (.invokevirtual 388, 3), none, none, some (.goto 4, 3), none, none, some (.iconst (-1), 1), some (.ireturn, 1)]
def g_m_X8_stepsFor : ri_Mt := (RX8, yX8_stepsFor, cX8_stepsFor, 3, (some .int), g_co_X8_stepsFor, 8)
def g_co_X8_begin : List (Option (Instr × Nat)) := [some (.aload_n 0, 1), some (.iconst 0, 1), some (.putfield 51, 3), none, none, some (.aload_n 0, 1), some (.aload_n 0, 1), some (.iload_n 1, 1), some (.invokevirtual 313, 3), none, none, some (.ifCond .eq 16, 3), none, none, some (.aload_n 0, 1), some (.iload_n 1, 1), some (.iload_n 2, 1), some (.invokevirtual 183, 3), none, none, some (.ifCond .eq 7, 3), none, none, some (.iconst 1, 1), some (.goto 4, 3), none, none, some (.iconst 0, 1), some (.iconst 1, 1), some (.invokevirtual 303, 3), none, none, some (.ifCond .ne 12, 3), none, none, some (.aload_n 0, 1), some (.iload_n 1, 1), some (.iconst 2, 1), some (.invokevirtual 318, 3), none, none, some (.ifCond .eq 5, 3), none, none, some (.iconst 0, 1), some (.ireturn, 1), some (.aload_n 0, 1), some (.invokevirtual 366, 3), none, none, some (.aload_n 0, 1), some (.iload_n 1, 1), some (.iload_n 2, 1), some (.invokevirtual 391, 3), none, none, some (.aload_n 0, 1), some (.invokevirtual 394, 3), none, none, some (.ireturn, 1)]
def g_m_X8_begin : ri_Mt := (RX8, yX8_begin, cX8_begin, 3, (some .int), g_co_X8_begin, 8)
def g_co_X8_run : List (Option (Instr × Nat)) := [some (.aload_n 0, 1), some (.iconst 0, 1), some (.putfield 51, 3), none, none, some (.aload_n 0, 1), some (.iload_n 1, 1), some (.i2l, 1), some (.lconst 1, 1), some (.ldc2_w 397, 3), none, none, some (.invokestatic 63, 3), none, none, some (.ifCond .ne 7, 3), none, none, some (.iconst 1, 1), some (.goto 4, 3), none, none, some (.iconst 0, 1), some (.iconst 1, 1), some (.invokevirtual 303, 3), none, none, some (.ifCond .ne 23, 3), none, none, some (.aload_n 0, 1), some (.aload_n 0, 1), some (.invokevirtual 95, 3), none, none, some (.ifCond .ne 7, 3), none, none, some (.iconst 1, 1), some (.goto 4, 3), none, none, some (.iconst 0, 1), some (.iconst 2, 1), some (.invokevirtual 303, 3), none, none, some (.ifCond .eq 5, 3), none, none, some (.iconst 0, 1), some (.ireturn, 1), some (.aload_n 0, 1), some (.invokevirtual 366, 3), none, none, some (.aload_n 0, 1), some (.iload_n 1, 1), some (.invokevirtual 399, 3), none, none, some (.ireturn, 1)]
def g_m_X8_run : ri_Mt := (RX8, yX8_run, cX8_run, 2, (some .int), g_co_X8_run, 8)
def g_co_X8_tear : List (Option (Instr × Nat)) := [some (.aload_n 0, 1), some (.iconst 0, 1), some (.putfield 51, 3), none, none, some (.aload_n 0, 1), some (.aload_n 0, 1), some (.invokevirtual 95, 3), none, none, some (.ifCond .ne 7, 3), none, none, some (.iconst 1, 1), some (.goto 4, 3), none, none, some (.iconst 0, 1), some (.iconst 1, 1), some (.invokevirtual 303, 3), none, none, some (.ifCond .eq 5, 3), none, none, some (.iconst 0, 1), some (.ireturn, 1), some (.aload_n 0, 1), some (.invokevirtual 366, 3), none, none, some (.aload_n 0, 1), some (.invokevirtual 162, 3), none, none, some (.iconst 2, 1), some (.idiv, 1), some (.istore_n 1, 1), some (.aload_n 0, 1), some (.iload_n 1, 1), some (.invokevirtual 174, 3), none, none, some (.aload_n 0, 1), some (.getfield 7, 3), none, none, some (.bipush 7, 2), none, some (.dup2, 1), some (.iaload, 1), some (.iconst 1, 1), some (.iadd, 1), some (.iastore, 1), some (.iload_n 1, 1), some (.ireturn, 1)]
def g_m_X8_tear : ri_Mt := (RX8, yX8_tear, cX8_tear, 2, (some .int), g_co_X8_tear, 8)
def g_co_X8_turnBack : List (Option (Instr × Nat)) := [some (.aload_n 0, 1), some (.iconst 0, 1), some (.putfield 51, 3), none, none, some (.aload_n 0, 1), some (.aload_n 0, 1), some (.invokevirtual 95, 3), none, none, some (.ifCond .eq 14, 3), none, none, some (.aload_n 0, 1), some (.getfield 7, 3), none, none, some (.bipush 22, 2), none, some (.iaload, 1), some (.iconst 1, 1), some (.if_icmp .ne 7, 3), none, none, some (.iconst 1, 1), some (.goto 4, 3), none, none, some (.iconst 0, 1), some (.iconst 1, 1), some (.invokevirtual 303, 3), none, none, some (.ifCond .eq 5, 3), none, none, some (.iconst 0, 1), some (.ireturn, 1), some (.aload_n 0, 1), some (.invokevirtual 366, 3), none, none, some (.aload_n 0, 1), some (.getfield 7, 3), none, none, some (.bipush 21, 2), none, some (.iaload, 1), some (.ifCond .ne 13, 3), none, none, some (.aload_n 0, 1), some (.getfield 7, 3), none, none, some (.bipush 16, 2), none, some (.iconst (-1), 1), some (.iastore, 1), some (.iconst 0, 1), some (.ireturn, 1), some (.aload_n 0, 1), some (.getfield 7, 3), none, none, some (.bipush 17, 2), none, some (.iaload, 1), some (.istore_n 1, 1), some (.aload_n 0, 1), some (.getfield 7, 3), none, none, some (.bipush 21, 2), none, some (.aload_n 0, 1), some (.invokevirtual 150, 3), none, none, some (.aload_n 0, 1), some (.getfield 7, 3), none, none, some (.bipush 21, 2), none, some (.iaload, 1), some (.isub, 1), some (.iastore, 1), some (.aload_n 0, 1), some (.getfield 7, 3), none, none, some (.bipush 17, 2), none, some (.aload_n 0, 1), some (.getfield 7, 3), none, none, some (.bipush 18, 2), none, some (.iaload, 1), some (.iastore, 1), some (.aload_n 0, 1), some (.getfield 7, 3), none, none, some (.bipush 18, 2), none, some (.iload_n 1, 1), some (.iastore, 1), some (.aload_n 0, 1), some (.aload_n 0, 1), some (.getfield 7, 3), none, none, some (.bipush 16, 2), none, some (.iaload, 1), some (.iconst 1, 1), some (.aload_n 0, 1), some (.getfield 7, 3), none, none, some (.bipush 17, 2), none, some (.iaload, 1), some (.invokevirtual 78, 3), none, none, some (.aload_n 0, 1), some (.invokevirtual 394, 3), none, none, some (.ireturn, 1)]
def g_m_X8_turnBack : ri_Mt := (RX8, yX8_turnBack, cX8_turnBack, 2, (some .int), g_co_X8_turnBack, 8)
def g_co_X8_move : List (Option (Instr × Nat)) := [some (.aload_n 0, 1), some (.iconst 0, 1), some (.putfield 51, 3), none, none, some (.aload_n 0, 1), some (.iload_n 1, 1), some (.i2l, 1), some (.lconst 0, 1), some (.ldc2_w 402, 3), none, none, some (.invokestatic 63, 3), none, none, some (.ifCond .ne 7, 3), none, none, some (.iconst 1, 1), some (.goto 4, 3), none, none, some (.iconst 0, 1), some (.iconst 1, 1), some (.invokevirtual 303, 3), none, none, some (.ifCond .eq 5, 3), none, none, some (.iconst 0, 1), some (.ireturn, 1), some (.aload_n 0, 1), some (.invokevirtual 95, 3), none, none, some (.ifCond .ne 5, 3), none, none, some (.iconst (-1), 1), some (.ireturn, 1), some (.iload_n 1, 1), some (.tableswitch 104 0 7 #[46, 54, 62, 70, 78, 86, 91, 99], 46), none, none, none, none, none, none, none, none, none, none, none, none, none, none, none, none, none, none, none, none, none, none, none, none, none, none, none, none, none, none, none, none, none, none, none, none, none, none, none, none, none, none, none, none, none, some (.aload_n 0, 1), some (.getfield 7, 3), none, none, some (.bipush 16, 2), none, some (.iaload, 1), some (.ireturn, 1), some (.aload_n 0, 1), some (.getfield 7, 3), none, none, some (.bipush 17, 2), none, some (.iaload, 1), some (.ireturn, 1), some (.aload_n 0, 1), some (.getfield 7, 3), none, none, some (.bipush 18, 2), none, some (.iaload, 1), some (.ireturn, 1), some (.aload_n 0, 1), some (.getfield 7, 3), none, none, some (.bipush 20, 2), none, some (.iaload, 1), some (.ireturn, 1), some (.aload_n 0, 1), some (.getfield 7, 3), none, none, some (.bipush 19, 2), none, some (.iaload, 1), some (.ireturn, 1), some (.aload_n 0, 1), some (.invokevirtual 150, 3), none, none, some (.ireturn, 1), some (.aload_n 0, 1), some (.getfield 7, 3), none, none, some (.bipush 21, 2), none, some (.iaload, 1), some (.ireturn, 1), some (.aload_n 0, 1), some (.invokevirtual 394, 3), none, none, some (.ireturn, 1), some (.aload_n 0, 1), some (.getfield 7, 3), none, none, some (.bipush 22, 2), none, some (.iaload, 1), some (.ireturn, 1)]
def g_m_X8_move : ri_Mt := (RX8, yX8_move, cX8_move, 2, (some .int), g_co_X8_move, 8)
def g_co_X8_blocksAt : List (Option (Instr × Nat)) := [some (.aload_n 0, 1), some (.iconst 0, 1), some (.putfield 51, 3), none, none, some (.aload_n 0, 1), some (.iload_n 1, 1), some (.i2l, 1), some (.lconst 0, 1), some (.ldc2_w 344, 3), none, none, some (.invokestatic 63, 3), none, none, some (.ifCond .ne 7, 3), none, none, some (.iconst 1, 1), some (.goto 4, 3), none, none, some (.iconst 0, 1), some (.iconst 1, 1), some (.invokevirtual 303, 3), none, none, some (.ifCond .eq 5, 3), none, none, some (.iconst 0, 1), some (.ireturn, 1), some (.aload_n 0, 1), some (.invokevirtual 95, 3), none, none, some (.ifCond .ne 5, 3), none, none, some (.iconst (-1), 1), some (.ireturn, 1), some (.aload_n 0, 1), some (.getfield 7, 3), none, none, some (.bipush 16, 2), none, some (.iaload, 1), some (.istore_n 2, 1), some (.iconst 0, 1), some (.istore_n 3, 1), some (.iconst 0, 1), some (.istore 4, 2), none, some (.iload 4, 2), none, some (.aload_n 0, 1), some (.iload_n 2, 1), some (.iconst 2, 1), some (.invokevirtual 67, 3), none, none, some (.if_icmp .ge 75, 3), none, none, some (.iload 4, 2), none, some (.aload_n 0, 1), some (.getfield 7, 3), none, none, some (.bipush 19, 2), none, some (.iaload, 1), some (.idiv, 1), some (.istore 5, 2), none, some (.aload_n 0, 1), some (.iload 5, 2), none, some (.invokevirtual 180, 3), none, none, some (.ifCond .eq 7, 3), none, none, some (.iconst 0, 1), some (.goto 28, 3), none, none, some (.aload_n 0, 1), some (.getfield 7, 3), none, none, some (.bipush 22, 2), none, some (.iaload, 1), some (.iconst 1, 1), some (.if_icmp .ne 16, 3), none, none, some (.iload 5, 2), none, some (.aload_n 0, 1), some (.invokevirtual 153, 3), none, none, some (.if_icmp .ne 7, 3), none, none, some (.iconst 1, 1), some (.goto 4, 3), none, none, some (.iconst 2, 1), some (.istore 6, 2), none, some (.iload_n 3, 1), some (.iload 6, 2), none, some (.iload_n 1, 1), some (.if_icmp .ne 7, 3), none, none, some (.iconst 1, 1), some (.goto 4, 3), none, none, some (.iconst 0, 1), some (.iadd, 1), some (.istore_n 3, 1), some (.iinc 4 1, 3), none, none, some (.goto (-80), 3), none, none, some (.iload_n 3, 1), some (.ireturn, 1)]
def g_m_X8_blocksAt : ri_Mt := (RX8, yX8_blocksAt, cX8_blocksAt, 7, (some .int), g_co_X8_blocksAt, 8)
def g_co_X8_nextStep : List (Option (Instr × Nat)) := [some (.aload_n 0, 1), some (.iconst 0, 1), some (.putfield 51, 3), none, none, some (.aload_n 0, 1), some (.iload_n 1, 1), some (.i2l, 1), some (.lconst 0, 1), some (.ldc2_w 339, 3), none, none, some (.invokestatic 63, 3), none, none, some (.ifCond .ne 7, 3), none, none, some (.iconst 1, 1), some (.goto 4, 3), none, none, some (.iconst 0, 1), some (.iconst 1, 1), some (.invokevirtual 303, 3), none, none, some (.ifCond .eq 5, 3), none, none, some (.iconst 0, 1), some (.ireturn, 1), some (.aload_n 0, 1), some (.invokevirtual 95, 3), none, none, some (.ifCond .ne 5, 3), none, none, some (.iconst (-1), 1), some (.ireturn, 1), some (.iload_n 1, 1), some (.ifCond .ne 10, 3), none, none, some (.aload_n 0, 1), some (.invokevirtual 165, 3), none, none, some (.goto 31, 3), none, none, some (.iload_n 1, 1), some (.iconst 1, 1), some (.if_icmp .ne 10, 3), none, none, some (.aload_n 0, 1), some (.invokevirtual 153, 3), none, none, some (.goto 19, 3), none, none, some (.iload_n 1, 1), some (.iconst 2, 1), some (.if_icmp .ne 10, 3), none, none, some (.aload_n 0, 1), some (.invokevirtual 156, 3), none, none, some (.goto 7, 3), none, none, some (.aload_n 0, 1), some (.invokevirtual 162, 3), none, none, some (.ireturn, 1)]
def g_m_X8_nextStep : ri_Mt := (RX8, yX8_nextStep, cX8_nextStep, 2, (some .int), g_co_X8_nextStep, 8)
def g_co_X8_stepSector : List (Option (Instr × Nat)) := [some (.aload_n 0, 1), some (.iconst 0, 1), some (.putfield 51, 3), none, none, some (.aload_n 0, 1), some (.invokevirtual 95, 3), none, none, some (.ifCond .eq 19, 3), none, none, some (.iload_n 1, 1), some (.i2l, 1), some (.lconst 0, 1), some (.aload_n 0, 1), some (.invokevirtual 162, 3), none, none, some (.iconst 1, 1), some (.isub, 1), some (.i2l, 1), some (.invokestatic 63, 3), none, none, some (.ifCond .ne 5, 3), none, none, some (.iconst (-1), 1), some (.ireturn, 1), some (.iload_n 2, 1), some (.ifCond .eq 11, 3), none, none, some (.aload_n 0, 1), some (.iload_n 1, 1), some (.invokevirtual 168, 3), none, none, some (.goto 8, 3), none, none, some (.aload_n 0, 1), some (.iload_n 1, 1), some (.invokevirtual 171, 3), none, none, some (.ireturn, 1)]
def g_m_X8_stepSector : ri_Mt := (RX8, yX8_stepSector, cX8_stepSector, 3, (some .int), g_co_X8_stepSector, 8)
def g_co_X8_copies_ : List (Option (Instr × Nat)) := [some (.aload_n 0, 1), some (.iconst 0, 1), some (.putfield 51, 3), none, none, some (.aload_n 0, 1), some (.iload_n 1, 1), some (.iconst 1, 1), some (.invokevirtual 318, 3), none, none, some (.ifCond .eq 5, 3), none, none, some (.iconst 0, 1), some (.ireturn, 1), some (.iconst 0, 1), some (.istore_n 2, 1), some (.iconst 0, 1), some (.istore_n 3, 1), some (.iload_n 3, 1), some (.aload_n 0, 1), some (.getfield 7, 3), none, none, some (.iconst 0, 1), some (.iaload, 1), some (.if_icmp .ge 65, 3), none, none, some (.aload_n 0, 1), some (.getfield 7, 3), none, none, some (.bipush 88, 2), none, some (.iload_n 3, 1), some (.iadd, 1), some (.iaload, 1), some (.aload_n 0, 1), some (.iload_n 1, 1), some (.iconst 0, 1), some (.invokevirtual 75, 3), none, none, some (.isub, 1), some (.istore 4, 2), none, some (.iload_n 2, 1), some (.iload 4, 2), none, some (.i2l, 1), some (.lconst 0, 1), some (.aload_n 0, 1), some (.iload_n 1, 1), some (.iconst 2, 1), some (.invokevirtual 67, 3), none, none, some (.iconst 1, 1), some (.isub, 1), some (.i2l, 1), some (.invokestatic 63, 3), none, none, some (.ifCond .eq 18, 3), none, none, some (.aload_n 0, 1), some (.iload_n 1, 1), some (.iload 4, 2), none, some (.invokevirtual 324, 3), none, none, some (.iload_n 3, 1), some (.if_icmp .eq 7, 3), none, none, some (.iconst 1, 1), some (.goto 4, 3), none, none, some (.iconst 0, 1), some (.iadd, 1), some (.istore_n 2, 1), some (.iinc 3 1, 3), none, none, some (.goto (-69), 3), none, none, some (.iload_n 2, 1), some (.ireturn, 1)]
def g_m_X8_copies_ : ri_Mt := (RX8, yX8_copies_, cX8_copies_, 5, (some .int), g_co_X8_copies_, 8)
def g_co_X8_leftmost : List (Option (Instr × Nat)) := [some (.aload_n 0, 1), some (.iconst 0, 1), some (.putfield 51, 3), none, none, some (.aload_n 0, 1), some (.iload_n 1, 1), some (.iconst 1, 1), some (.invokevirtual 318, 3), none, none, some (.ifCond .eq 7, 3), none, none, some (.iconst 0, 1), some (.goto 8, 3), none, none, some (.aload_n 0, 1), some (.iload_n 1, 1), some (.invokevirtual 404, 3), none, none, some (.ireturn, 1)]
def g_m_X8_leftmost : ri_Mt := (RX8, yX8_leftmost, cX8_leftmost, 2, (some .int), g_co_X8_leftmost, 8)
def g_co_X8_rightmost : List (Option (Instr × Nat)) := [some (.aload_n 0, 1), some (.iconst 0, 1), some (.putfield 51, 3), none, none, some (.aload_n 0, 1), some (.iload_n 1, 1), some (.iconst 1, 1), some (.invokevirtual 318, 3), none, none, some (.ifCond .eq 7, 3), none, none, some (.iconst 0, 1), some (.goto 8, 3), none, none, some (.aload_n 0, 1), some (.iload_n 1, 1), some (.invokevirtual 407, 3), none, none, some (.ireturn, 1)]
def g_m_X8_rightmost : ri_Mt := (RX8, yX8_rightmost, cX8_rightmost, 2, (some .int), g_co_X8_rightmost, 8)
def g_co_X8_compacts : List (Option (Instr × Nat)) := [some (.aload_n 0, 1), some (.invokevirtual 298, 3), none, none, some (.istore_n 1, 1), some (.iconst 0, 1), some (.istore_n 2, 1), some (.iconst 0, 1), some (.istore_n 3, 1), some (.iload_n 3, 1), some (.iload_n 1, 1), some (.if_icmp .ge 20, 3), none, none, some (.aload_n 0, 1), some (.getfield 41, 3), none, none, some (.iload_n 3, 1), some (.aload_n 0, 1), some (.iload_n 3, 1), some (.invokevirtual 336, 3), none, none, some (.iastore, 1), some (.iinc 3 1, 3), none, none, some (.goto (-19), 3), none, none, some (.iconst 0, 1), some (.istore_n 3, 1), some (.iload_n 3, 1), some (.iload_n 1, 1), some (.if_icmp .ge 61, 3), none, none, some (.aload_n 0, 1), some (.aload_n 0, 1), some (.getfield 41, 3), none, none, some (.iload_n 3, 1), some (.iaload, 1), some (.invokevirtual 404, 3), none, none, some (.istore 4, 2), none, some (.iload 4, 2), none, some (.iconst (-1), 1), some (.if_icmp .ne 6, 3), none, none, some (.goto 34, 3), none, none, some (.aload_n 0, 1), some (.aload_n 0, 1), some (.getfield 41, 3), none, none, some (.iload_n 3, 1), some (.iaload, 1), some (.iload 4, 2), none, some (.invokevirtual 391, 3), none, none, some (.iload_n 2, 1), some (.aload_n 0, 1), some (.aload_n 0, 1), some (.invokevirtual 394, 3), none, none, some (.invokevirtual 399, 3), none, none, some (.ifCond .le 7, 3), none, none, some (.iconst 1, 1), some (.goto 4, 3), none, none, some (.iconst 0, 1), some (.iadd, 1), some (.istore_n 2, 1), some (.iinc 3 1, 3), none, none, some (.goto (-60), 3), none, none, some (.iload_n 2, 1), some (.ireturn, 1)]
def g_m_X8_compacts : ri_Mt := (RX8, yX8_compacts, cX8_compacts, 5, (some .int), g_co_X8_compacts, 8)
def g_co_X8_compact : List (Option (Instr × Nat)) := [some (.aload_n 0, 1), some (.iconst 0, 1), some (.putfield 51, 3), none, none, some (.aload_n 0, 1), some (.aload_n 0, 1), some (.invokevirtual 95, 3), none, none, some (.iconst 1, 1), some (.invokevirtual 303, 3), none, none, some (.ifCond .eq 5, 3), none, none, some (.iconst 0, 1), some (.ireturn, 1), some (.aload_n 0, 1), some (.invokevirtual 366, 3), none, none, some (.aload_n 0, 1), some (.invokevirtual 410, 3), none, none, some (.ireturn, 1)]
def g_m_X8_compact : ri_Mt := (RX8, yX8_compact, cX8_compact, 1, (some .int), g_co_X8_compact, 8)
def g_co_X8_compactSteps : List (Option (Instr × Nat)) := [some (.aload_n 0, 1), some (.iconst 0, 1), some (.putfield 51, 3), none, none, some (.aload_n 0, 1), some (.invokevirtual 95, 3), none, none, some (.ifCond .eq 5, 3), none, none, some (.iconst (-1), 1), some (.ireturn, 1), some (.aload_n 0, 1), some (.invokevirtual 413, 3), none, none, some (.aload_n 0, 1), some (.getfield 7, 3), none, none, some (.bipush 6, 2), none, some (.iaload, 1), some (.istore_n 1, 1), some (.aload_n 0, 1), some (.invokevirtual 410, 3), none, none, some (.istore_n 2, 1), some (.iload_n 2, 1), some (.ifCond .ge 7, 3), none, none, some (.iconst (-1), 1), some (.goto 12, 3), none, none, some (.aload_n 0, 1), some (.getfield 7, 3), none, none, some (.bipush 6, 2), none, some (.iaload, 1), some (.iload_n 1, 1), some (.isub, 1), some (.istore_n 3, 1), some (.aload_n 0, 1), some (.invokevirtual 416, 3), none, none, some (.iload_n 3, 1), some (.ireturn, 1)]
def g_m_X8_compactSteps : ri_Mt := (RX8, yX8_compactSteps, cX8_compactSteps, 4, (some .int), g_co_X8_compactSteps, 8)
def g_co_X8_cheapestMove : List (Option (Instr × Nat)) := [some (.aload_n 0, 1), some (.iconst 0, 1), some (.putfield 51, 3), none, none, some (.aload_n 0, 1), some (.iload_n 1, 1), some (.i2l, 1), some (.lconst 1, 1), some (.ldc2_w 419, 3), none, none, some (.invokestatic 63, 3), none, none, some (.ifCond .ne 7, 3), none, none, some (.iconst 1, 1), some (.goto 4, 3), none, none, some (.iconst 0, 1), some (.iconst 1, 1), some (.invokevirtual 303, 3), none, none, some (.ifCond .ne 15, 3), none, none, some (.aload_n 0, 1), some (.aload_n 0, 1), some (.invokevirtual 95, 3), none, none, some (.iconst 2, 1), some (.invokevirtual 303, 3), none, none, some (.ifCond .eq 5, 3), none, none, some (.iconst 0, 1), some (.ireturn, 1), some (.aload_n 0, 1), some (.invokevirtual 421, 3), none, none, some (.iload_n 1, 1), some (.if_icmp .lt 6, 3), none, none, some (.bipush (-2), 2), none, some (.ireturn, 1), some (.iconst (-1), 1), some (.istore_n 2, 1), some (.iconst 0, 1), some (.istore_n 3, 1), some (.iconst 0, 1), some (.istore 4, 2), none, some (.iload 4, 2), none, some (.bipush 8, 2), none, some (.if_icmp .ge 103, 3), none, none, some (.iconst 0, 1), some (.istore 5, 2), none, some (.aload_n 0, 1), some (.iload 4, 2), none, some (.iconst 0, 1), some (.invokevirtual 67, 3), none, none, some (.iconst 1, 1), some (.if_icmp .ne 83, 3), none, none, some (.iload 5, 2), none, some (.aload_n 0, 1), some (.getfield 7, 3), none, none, some (.iconst 0, 1), some (.iaload, 1), some (.if_icmp .ge 72, 3), none, none, some (.aload_n 0, 1), some (.iload 4, 2), none, some (.iload 5, 2), none, some (.invokevirtual 183, 3), none, none, some (.ifCond .eq 6, 3), none, none, some (.goto 52, 3), none, none, some (.aload_n 0, 1), some (.iload 4, 2), none, some (.iload 5, 2), none, some (.invokevirtual 388, 3), none, none, some (.istore 6, 2), none, some (.iload_n 2, 1), some (.iconst (-1), 1), some (.if_icmp .eq 9, 3), none, none, some (.iload 6, 2), none, some (.iload_n 3, 1), some (.if_icmp .ge 31, 3), none, none, some (.aload_n 0, 1), some (.iload 4, 2), none, some (.iload 5, 2), none, some (.iload_n 1, 1), some (.invokevirtual 424, 3), none, none, some (.ifCond .ne 6, 3), none, none, some (.goto 16, 3), none, none, some (.sipush 1000, 3), none, none, some (.iload 4, 2), none, some (.imul, 1), some (.iload 5, 2), none, some (.iadd, 1), some (.istore_n 2, 1), some (.iload 6, 2), none, some (.istore_n 3, 1), some (.iinc 5 1, 3), none, none, some (.goto (-88), 3), none, none, some (.iinc 4 1, 3), none, none, some (.goto (-104), 3), none, none, some (.iload_n 2, 1), some (.ireturn, 1)]
def g_m_X8_cheapestMove : ri_Mt := (RX8, yX8_cheapestMove, cX8_cheapestMove, 7, (some .int), g_co_X8_cheapestMove, 8)
def g_co_X8_brings : List (Option (Instr × Nat)) := [some (.aload_n 0, 1), some (.iload_n 1, 1), some (.iconst 1, 1), some (.invokevirtual 67, 3), none, none, some (.istore 4, 2), none, some (.aload_n 0, 1), some (.iload_n 1, 1), some (.iconst 1, 1), some (.iload_n 2, 1), some (.invokevirtual 78, 3), none, none, some (.aload_n 0, 1), some (.invokevirtual 421, 3), none, none, some (.iload_n 3, 1), some (.if_icmp .lt 7, 3), none, none, some (.iconst 1, 1), some (.goto 4, 3), none, none, some (.iconst 0, 1), some (.istore 5, 2), none, some (.aload_n 0, 1), some (.iload_n 1, 1), some (.iconst 1, 1), some (.iload 4, 2), none, some (.invokevirtual 78, 3), none, none, some (.iload 5, 2), none, some (.ireturn, 1)]
def g_m_X8_brings : ri_Mt := (RX8, yX8_brings, cX8_brings, 6, (some .boolean), g_co_X8_brings, 8)
def g_co_X8_bestChunk : List (Option (Instr × Nat)) := [some (.aload_n 0, 1), some (.iconst 0, 1), some (.putfield 51, 3), none, none, some (.aload_n 0, 1), some (.iload_n 1, 1), some (.iconst 1, 1), some (.invokevirtual 318, 3), none, none, some (.ifCond .eq 5, 3), none, none, some (.iconst 0, 1), some (.ireturn, 1), some (.aload_n 0, 1), some (.getfield 7, 3), none, none, some (.iconst 4, 1), some (.iaload, 1), some (.istore_n 3, 1), some (.iconst (-1), 1), some (.istore 4, 2), none, some (.iconst 0, 1), some (.istore 5, 2), none, some (.iconst 1, 1), some (.istore 6, 2), none, some (.iload 6, 2), none, some (.bipush 16, 2), none, some (.if_icmp .gt 61, 3), none, none, some (.aload_n 0, 1), some (.getfield 7, 3), none, none, some (.iconst 4, 1), some (.iload 6, 2), none, some (.iastore, 1), some (.aload_n 0, 1), some (.iload_n 1, 1), some (.iload_n 2, 1), some (.invokevirtual 183, 3), none, none, some (.ifCond .eq 6, 3), none, none, some (.goto 35, 3), none, none, some (.aload_n 0, 1), some (.iload_n 1, 1), some (.iload_n 2, 1), some (.invokevirtual 388, 3), none, none, some (.istore 7, 2), none, some (.iload 4, 2), none, some (.iconst (-1), 1), some (.if_icmp .eq 13, 3), none, none, some (.iload 7, 2), none, some (.iload 5, 2), none, some (.if_icmp .lt 6, 3), none, none, some (.goto 11, 3), none, none, some (.iload 6, 2), none, some (.istore 4, 2), none, some (.iload 7, 2), none, some (.istore 5, 2), none, some (.iinc 6 1, 3), none, none, some (.goto (-62), 3), none, none, some (.aload_n 0, 1), some (.getfield 7, 3), none, none, some (.iconst 4, 1), some (.iload_n 3, 1), some (.iastore, 1), some (.iload 4, 2), none, some (.ireturn, 1)]
def g_m_X8_bestChunk : ri_Mt := (RX8, yX8_bestChunk, cX8_bestChunk, 8, (some .int), g_co_X8_bestChunk, 8)
def g_co_X8_write : List (Option (Instr × Nat)) := [some (.aload_n 0, 1), some (.getfield 44, 3), none, none, some (.aload_n 0, 1), some (.getfield 427, 3), none, none, some (.iload_n 1, 1), some (.iastore, 1), some (.aload_n 0, 1), some (.dup, 1), some (.getfield 427, 3), none, none, some (.iconst 1, 1), some (.iadd, 1), some (.putfield 427, 3), none, none, some (.return_, 1)]
def g_m_X8_write : ri_Mt := (RX8, yX8_write, cX8_write, 2, none, g_co_X8_write, 8)
def g_co_X8_writeNumber : List (Option (Instr × Nat)) := [some (.iconst 1, 1), some (.istore_n 2, 1), some (.iload_n 1, 1), some (.iload_n 2, 1), some (.idiv, 1), some (.bipush 9, 2), none, some (.if_icmp .le 11, 3), none, none, some (.iload_n 2, 1), some (.bipush 10, 2), none, some (.imul, 1), some (.istore_n 2, 1), some (.goto (-13), 3), none, none, some (.iload_n 2, 1), some (.ifCond .le 24, 3), none, none, some (.aload_n 0, 1), some (.bipush 48, 2), none, some (.iload_n 1, 1), some (.iload_n 2, 1), some (.idiv, 1), some (.bipush 10, 2), none, some (.irem, 1), some (.iadd, 1), some (.invokevirtual 430, 3), none, none, some (.iload_n 2, 1), some (.bipush 10, 2), none, some (.idiv, 1), some (.istore_n 2, 1), some (.goto (-22), 3), none, none, some (.return_, 1)]
def g_m_X8_writeNumber : ri_Mt := (RX8, yX8_writeNumber, cX8_writeNumber, 3, none, g_co_X8_writeNumber, 8)
def g_co_X8_printDisk : List (Option (Instr × Nat)) := [some (.aload_n 0, 1), some (.iconst 0, 1), some (.putfield 51, 3), none, none, some (.aload_n 0, 1), some (.iconst 0, 1), some (.putfield 427, 3), none, none, some (.aload_n 0, 1), some (.iconst (-1), 1), some (.invokevirtual 333, 3), none, none, some (.istore_n 1, 1), some (.iload_n 1, 1), some (.iconst (-1), 1), some (.if_icmp .eq 35, 3), none, none, some (.aload_n 0, 1), some (.getfield 427, 3), none, none, some (.ifCond .le 9, 3), none, none, some (.aload_n 0, 1), some (.bipush 32, 2), none, some (.invokevirtual 430, 3), none, none, some (.aload_n 0, 1), some (.iload_n 1, 1), some (.invokevirtual 433, 3), none, none, some (.aload_n 0, 1), some (.aload_n 0, 1), some (.iload_n 1, 1), some (.iconst 1, 1), some (.invokevirtual 67, 3), none, none, some (.invokevirtual 333, 3), none, none, some (.istore_n 1, 1), some (.goto (-34), 3), none, none, some (.aload_n 0, 1), some (.getfield 427, 3), none, none, some (.ireturn, 1)]
def g_m_X8_printDisk : ri_Mt := (RX8, yX8_printDisk, cX8_printDisk, 2, (some .int), g_co_X8_printDisk, 8)
def g_co_X8_writePart : List (Option (Instr × Nat)) := [some (.aload_n 0, 1), some (.iload_n 1, 1), some (.invokevirtual 436, 3), none, none, some (.aload_n 0, 1), some (.bipush 91, 2), none, some (.invokevirtual 430, 3), none, none, some (.aload_n 0, 1), some (.aload_n 0, 1), some (.iload_n 1, 1), some (.iconst 1, 1), some (.invokevirtual 67, 3), none, none, some (.invokevirtual 436, 3), none, none, some (.aload_n 0, 1), some (.bipush 44, 2), none, some (.invokevirtual 430, 3), none, none, some (.aload_n 0, 1), some (.aload_n 0, 1), some (.iload_n 1, 1), some (.iconst 2, 1), some (.invokevirtual 67, 3), none, none, some (.invokevirtual 436, 3), none, none, some (.aload_n 0, 1), some (.bipush 93, 2), none, some (.invokevirtual 430, 3), none, none, some (.aload_n 0, 1), some (.iload_n 1, 1), some (.iconst 5, 1), some (.invokevirtual 67, 3), none, none, some (.iconst 1, 1), some (.if_icmp .ne 9, 3), none, none, some (.aload_n 0, 1), some (.bipush 42, 2), none, some (.invokevirtual 430, 3), none, none, some (.aload_n 0, 1), some (.iload_n 1, 1), some (.invokevirtual 71, 3), none, none, some (.ifCond .eq 9, 3), none, none, some (.aload_n 0, 1), some (.bipush 62, 2), none, some (.invokevirtual 430, 3), none, none, some (.return_, 1)]
def g_m_X8_writePart : ri_Mt := (RX8, yX8_writePart, cX8_writePart, 2, none, g_co_X8_writePart, 8)
def g_co_X8_outputByte : List (Option (Instr × Nat)) := [some (.aload_n 0, 1), some (.iconst 0, 1), some (.putfield 51, 3), none, none, some (.iload_n 1, 1), some (.i2l, 1), some (.lconst 0, 1), some (.aload_n 0, 1), some (.getfield 427, 3), none, none, some (.iconst 1, 1), some (.isub, 1), some (.i2l, 1), some (.invokestatic 63, 3), none, none, some (.ifCond .eq 12, 3), none, none, some (.aload_n 0, 1), some (.getfield 44, 3), none, none, some (.iload_n 1, 1), some (.iaload, 1), some (.goto 4, 3), none, none, some (.iconst (-1), 1), some (.ireturn, 1)]
def g_m_X8_outputByte : ri_Mt := (RX8, yX8_outputByte, cX8_outputByte, 2, (some .int), g_co_X8_outputByte, 8)
def g_co_X8_undo : List (Option (Instr × Nat)) := [some (.aload_n 0, 1), some (.iconst 0, 1), some (.putfield 51, 3), none, none, some (.aload_n 0, 1), some (.getfield 54, 3), none, none, some (.ifCond .ne 5, 3), none, none, some (.iconst (-1), 1), some (.ireturn, 1), some (.aload_n 0, 1), some (.dup, 1), some (.getfield 54, 3), none, none, some (.iconst 1, 1), some (.isub, 1), some (.putfield 54, 3), none, none, some (.aload_n 0, 1), some (.getfield 22, 3), none, none, some (.sipush 688, 3), none, none, some (.aload_n 0, 1), some (.getfield 54, 3), none, none, some (.imul, 1), some (.aload_n 0, 1), some (.getfield 7, 3), none, none, some (.iconst 0, 1), some (.sipush 688, 3), none, none, some (.invokestatic 57, 3), none, none, some (.aload_n 0, 1), some (.getfield 54, 3), none, none, some (.ireturn, 1)]
def g_m_X8_undo : ri_Mt := (RX8, yX8_undo, cX8_undo, 1, (some .int), g_co_X8_undo, 8)
def g_co_X8_saveState : List (Option (Instr × Nat)) := [some (.aload_n 0, 1), some (.iconst 0, 1), some (.putfield 51, 3), none, none, some (.aload_n 0, 1), some (.getfield 7, 3), none, none, some (.iconst 0, 1), some (.aload_n 0, 1), some (.getfield 19, 3), none, none, some (.iconst 0, 1), some (.sipush 688, 3), none, none, some (.invokestatic 57, 3), none, none, some (.aload_n 0, 1), some (.iconst 1, 1), some (.putfield 294, 3), none, none, some (.aload_n 0, 1), some (.invokevirtual 298, 3), none, none, some (.ireturn, 1)]
def g_m_X8_saveState : ri_Mt := (RX8, yX8_saveState, cX8_saveState, 1, (some .int), g_co_X8_saveState, 8)
def g_co_X8_restoreState : List (Option (Instr × Nat)) := [some (.aload_n 0, 1), some (.iconst 0, 1), some (.putfield 51, 3), none, none, some (.aload_n 0, 1), some (.aload_n 0, 1), some (.getfield 294, 3), none, none, some (.ifCond .ne 7, 3), none, none, some (.iconst 1, 1), some (.goto 4, 3), none, none, some (.iconst 0, 1), some (.iconst 1, 1), some (.invokevirtual 303, 3), none, none, some (.ifCond .eq 5, 3), none, none, some (.iconst 0, 1), some (.ireturn, 1), some (.aload_n 0, 1), some (.getfield 19, 3), none, none, some (.iconst 0, 1), some (.aload_n 0, 1), some (.getfield 7, 3), none, none, some (.iconst 0, 1), some (.sipush 688, 3), none, none, some (.invokestatic 57, 3), none, none, some (.aload_n 0, 1), some (.iconst 0, 1), some (.putfield 54, 3), none, none, some (.aload_n 0, 1), some (.invokevirtual 298, 3), none, none, some (.ireturn, 1)]
def g_m_X8_restoreState : ri_Mt := (RX8, yX8_restoreState, cX8_restoreState, 1, (some .int), g_co_X8_restoreState, 8)
def g_co_L_count : List (Option (Instr × Nat)) := [some (.aload_n 2, 1), some (.iconst 0, 1), some (.aload_n 0, 1), some (.iload_n 1, 1), some (.invokevirtual 7, 3), none, none, some (.i2l, 1), some (.lastore, 1), some (.goto 6, 3), none, none, some (.astore_n 3, 1), some (.iconst 1, 1), some (.ireturn, 1), some (.iconst 0, 1), some (.ireturn, 1)]
def g_m_L_count : ri_Mt := (RL, yL_count, cL_count, 4, (some .int), g_co_L_count, 9)
def g_co_L_part : List (Option (Instr × Nat)) := [some (.aload_n 3, 1), some (.iconst 0, 1), some (.aload_n 0, 1), some (.iload_n 1, 1), some (.iload_n 2, 1), some (.invokevirtual 15, 3), none, none, some (.i2l, 1), some (.lastore, 1), some (.goto 11, 3), none, none, some (.astore 4, 2), none, some (.iconst 1, 1), some (.ireturn, 1), some (.astore 4, 2), none, some (.iconst 2, 1), some (.ireturn, 1), some (.iconst 0, 1), some (.ireturn, 1)]
def g_m_L_part : ri_Mt := (RL, yL_part, cL_part, 5, (some .int), g_co_L_part, 9)
def g_co_L_sector : List (Option (Instr × Nat)) := [some (.aload_n 2, 1), some (.iconst 0, 1), some (.aload_n 0, 1), some (.iload_n 1, 1), some (.invokevirtual 21, 3), none, none, some (.i2l, 1), some (.lastore, 1), some (.goto 6, 3), none, none, some (.astore_n 3, 1), some (.iconst 1, 1), some (.ireturn, 1), some (.iconst 0, 1), some (.ireturn, 1)]
def g_m_L_sector : ri_Mt := (RL, yL_sector, cL_sector, 4, (some .int), g_co_L_sector, 9)
def g_co_L_owner : List (Option (Instr × Nat)) := [some (.aload_n 2, 1), some (.iconst 0, 1), some (.aload_n 0, 1), some (.iload_n 1, 1), some (.invokevirtual 26, 3), none, none, some (.i2l, 1), some (.lastore, 1), some (.goto 6, 3), none, none, some (.astore_n 3, 1), some (.iconst 1, 1), some (.ireturn, 1), some (.iconst 0, 1), some (.ireturn, 1)]
def g_m_L_owner : ri_Mt := (RL, yL_owner, cL_owner, 4, (some .int), g_co_L_owner, 9)
def g_co_L_place : List (Option (Instr × Nat)) := [some (.aload_n 3, 1), some (.iconst 0, 1), some (.aload_n 0, 1), some (.iload_n 1, 1), some (.iload_n 2, 1), some (.invokevirtual 29, 3), none, none, some (.i2l, 1), some (.lastore, 1), some (.goto 11, 3), none, none, some (.astore 4, 2), none, some (.iconst 1, 1), some (.ireturn, 1), some (.astore 4, 2), none, some (.iconst 2, 1), some (.ireturn, 1), some (.iconst 0, 1), some (.ireturn, 1)]
def g_m_L_place : ri_Mt := (RL, yL_place, cL_place, 5, (some .int), g_co_L_place, 9)
def g_co_L_isWhole : List (Option (Instr × Nat)) := [some (.aload_n 2, 1), some (.iconst 0, 1), some (.aload_n 0, 1), some (.iload_n 1, 1), some (.invokevirtual 32, 3), none, none, some (.ifCond .eq 7, 3), none, none, some (.lconst 1, 1), some (.goto 4, 3), none, none, some (.lconst 0, 1), some (.lastore, 1), some (.goto 6, 3), none, none, some (.astore_n 3, 1), some (.iconst 1, 1), some (.ireturn, 1), some (.iconst 0, 1), some (.ireturn, 1)]
def g_m_L_isWhole : ri_Mt := (RL, yL_isWhole, cL_isWhole, 4, (some .int), g_co_L_isWhole, 9)
def g_co_L_byStart : List (Option (Instr × Nat)) := [some (.aload_n 2, 1), some (.iconst 0, 1), some (.aload_n 0, 1), some (.iload_n 1, 1), some (.invokevirtual 36, 3), none, none, some (.i2l, 1), some (.lastore, 1), some (.goto 6, 3), none, none, some (.astore_n 3, 1), some (.iconst 1, 1), some (.ireturn, 1), some (.iconst 0, 1), some (.ireturn, 1)]
def g_m_L_byStart : ri_Mt := (RL, yL_byStart, cL_byStart, 4, (some .int), g_co_L_byStart, 9)
def g_co_L_gap : List (Option (Instr × Nat)) := [some (.aload_n 3, 1), some (.iconst 0, 1), some (.aload_n 0, 1), some (.iload_n 1, 1), some (.iload_n 2, 1), some (.invokevirtual 39, 3), none, none, some (.i2l, 1), some (.lastore, 1), some (.goto 11, 3), none, none, some (.astore 4, 2), none, some (.iconst 1, 1), some (.ireturn, 1), some (.astore 4, 2), none, some (.iconst 2, 1), some (.ireturn, 1), some (.iconst 0, 1), some (.ireturn, 1)]
def g_m_L_gap : ri_Mt := (RL, yL_gap, cL_gap, 5, (some .int), g_co_L_gap, 9)
def g_co_L_fit : List (Option (Instr × Nat)) := [some (.aload_n 3, 1), some (.iconst 0, 1), some (.aload_n 0, 1), some (.iload_n 1, 1), some (.iload_n 2, 1), some (.invokevirtual 42, 3), none, none, some (.i2l, 1), some (.lastore, 1), some (.goto 7, 3), none, none, some (.astore 4, 2), none, some (.iconst 1, 1), some (.ireturn, 1), some (.iconst 0, 1), some (.ireturn, 1)]
def g_m_L_fit : ri_Mt := (RL, yL_fit, cL_fit, 5, (some .int), g_co_L_fit, 9)
def g_co_L_add : List (Option (Instr × Nat)) := [some (.aload 5, 2), none, some (.iconst 0, 1), some (.aload_n 0, 1), some (.iload_n 1, 1), some (.iload_n 2, 1), some (.iload_n 3, 1), some (.iload 4, 2), none, some (.invokevirtual 45, 3), none, none, some (.i2l, 1), some (.lastore, 1), some (.goto 11, 3), none, none, some (.astore 6, 2), none, some (.iconst 1, 1), some (.ireturn, 1), some (.astore 6, 2), none, some (.iconst 2, 1), some (.ireturn, 1), some (.iconst 0, 1), some (.ireturn, 1)]
def g_m_L_add : ri_Mt := (RL, yL_add, cL_add, 7, (some .int), g_co_L_add, 9)
def g_co_L_addBy : List (Option (Instr × Nat)) := [some (.aload 5, 2), none, some (.iconst 0, 1), some (.aload_n 0, 1), some (.iload_n 1, 1), some (.iload_n 2, 1), some (.iload_n 3, 1), some (.iload 4, 2), none, some (.invokevirtual 51, 3), none, none, some (.i2l, 1), some (.lastore, 1), some (.goto 11, 3), none, none, some (.astore 6, 2), none, some (.iconst 1, 1), some (.ireturn, 1), some (.astore 6, 2), none, some (.iconst 2, 1), some (.ireturn, 1), some (.iconst 0, 1), some (.ireturn, 1)]
def g_m_L_addBy : ri_Mt := (RL, yL_addBy, cL_addBy, 7, (some .int), g_co_L_addBy, 9)
def g_co_L_remove : List (Option (Instr × Nat)) := [some (.aload_n 2, 1), some (.iconst 0, 1), some (.aload_n 0, 1), some (.iload_n 1, 1), some (.invokevirtual 54, 3), none, none, some (.i2l, 1), some (.lastore, 1), some (.goto 9, 3), none, none, some (.astore_n 3, 1), some (.iconst 1, 1), some (.ireturn, 1), some (.astore_n 3, 1), some (.iconst 2, 1), some (.ireturn, 1), some (.iconst 0, 1), some (.ireturn, 1)]
def g_m_L_remove : ri_Mt := (RL, yL_remove, cL_remove, 4, (some .int), g_co_L_remove, 9)
def g_co_L_lock : List (Option (Instr × Nat)) := [some (.aload_n 3, 1), some (.iconst 0, 1), some (.aload_n 0, 1), some (.iload_n 1, 1), some (.iload_n 2, 1), some (.invokevirtual 57, 3), none, none, some (.ifCond .eq 7, 3), none, none, some (.lconst 1, 1), some (.goto 4, 3), none, none, some (.lconst 0, 1), some (.lastore, 1), some (.goto 7, 3), none, none, some (.astore 4, 2), none, some (.iconst 1, 1), some (.ireturn, 1), some (.iconst 0, 1), some (.ireturn, 1)]
def g_m_L_lock : ri_Mt := (RL, yL_lock, cL_lock, 5, (some .int), g_co_L_lock, 9)
def g_co_L_resizeReason : List (Option (Instr × Nat)) := [some (.aload_n 3, 1), some (.iconst 0, 1), some (.aload_n 0, 1), some (.iload_n 1, 1), some (.iload_n 2, 1), some (.invokevirtual 61, 3), none, none, some (.i2l, 1), some (.lastore, 1), some (.goto 7, 3), none, none, some (.astore 4, 2), none, some (.iconst 1, 1), some (.ireturn, 1), some (.iconst 0, 1), some (.ireturn, 1)]
def g_m_L_resizeReason : ri_Mt := (RL, yL_resizeReason, cL_resizeReason, 5, (some .int), g_co_L_resizeReason, 9)
def g_co_L_resize : List (Option (Instr × Nat)) := [some (.aload_n 3, 1), some (.iconst 0, 1), some (.aload_n 0, 1), some (.iload_n 1, 1), some (.iload_n 2, 1), some (.invokevirtual 64, 3), none, none, some (.i2l, 1), some (.lastore, 1), some (.goto 11, 3), none, none, some (.astore 4, 2), none, some (.iconst 1, 1), some (.ireturn, 1), some (.astore 4, 2), none, some (.iconst 2, 1), some (.ireturn, 1), some (.iconst 0, 1), some (.ireturn, 1)]
def g_m_L_resize : ri_Mt := (RL, yL_resize, cL_resize, 5, (some .int), g_co_L_resize, 9)
def g_co_L_setMinimum : List (Option (Instr × Nat)) := [some (.aload_n 3, 1), some (.iconst 0, 1), some (.aload_n 0, 1), some (.iload_n 1, 1), some (.iload_n 2, 1), some (.invokevirtual 67, 3), none, none, some (.i2l, 1), some (.lastore, 1), some (.goto 11, 3), none, none, some (.astore 4, 2), none, some (.iconst 1, 1), some (.ireturn, 1), some (.astore 4, 2), none, some (.iconst 2, 1), some (.ireturn, 1), some (.iconst 0, 1), some (.ireturn, 1)]
def g_m_L_setMinimum : ri_Mt := (RL, yL_setMinimum, cL_setMinimum, 5, (some .int), g_co_L_setMinimum, 9)
def g_co_L_growsTo : List (Option (Instr × Nat)) := [some (.aload_n 2, 1), some (.iconst 0, 1), some (.aload_n 0, 1), some (.iload_n 1, 1), some (.invokevirtual 70, 3), none, none, some (.i2l, 1), some (.lastore, 1), some (.goto 6, 3), none, none, some (.astore_n 3, 1), some (.iconst 1, 1), some (.ireturn, 1), some (.iconst 0, 1), some (.ireturn, 1)]
def g_m_L_growsTo : ri_Mt := (RL, yL_growsTo, cL_growsTo, 4, (some .int), g_co_L_growsTo, 9)
def g_co_L_set : List (Option (Instr × Nat)) := [some (.aload_n 3, 1), some (.iconst 0, 1), some (.aload_n 0, 1), some (.iload_n 1, 1), some (.iload_n 2, 1), some (.invokevirtual 73, 3), none, none, some (.i2l, 1), some (.lastore, 1), some (.goto 7, 3), none, none, some (.astore 4, 2), none, some (.iconst 1, 1), some (.ireturn, 1), some (.iconst 0, 1), some (.ireturn, 1)]
def g_m_L_set : ri_Mt := (RL, yL_set, cL_set, 5, (some .int), g_co_L_set, 9)
def g_co_L_moveReason : List (Option (Instr × Nat)) := [some (.aload_n 3, 1), some (.iconst 0, 1), some (.aload_n 0, 1), some (.iload_n 1, 1), some (.iload_n 2, 1), some (.invokevirtual 76, 3), none, none, some (.i2l, 1), some (.lastore, 1), some (.goto 7, 3), none, none, some (.astore 4, 2), none, some (.iconst 1, 1), some (.ireturn, 1), some (.iconst 0, 1), some (.ireturn, 1)]
def g_m_L_moveReason : ri_Mt := (RL, yL_moveReason, cL_moveReason, 5, (some .int), g_co_L_moveReason, 9)
def g_co_L_stepsFor : List (Option (Instr × Nat)) := [some (.aload_n 3, 1), some (.iconst 0, 1), some (.aload_n 0, 1), some (.iload_n 1, 1), some (.iload_n 2, 1), some (.invokevirtual 79, 3), none, none, some (.i2l, 1), some (.lastore, 1), some (.goto 7, 3), none, none, some (.astore 4, 2), none, some (.iconst 1, 1), some (.ireturn, 1), some (.iconst 0, 1), some (.ireturn, 1)]
def g_m_L_stepsFor : ri_Mt := (RL, yL_stepsFor, cL_stepsFor, 5, (some .int), g_co_L_stepsFor, 9)
def g_co_L_begin : List (Option (Instr × Nat)) := [some (.aload_n 3, 1), some (.iconst 0, 1), some (.aload_n 0, 1), some (.iload_n 1, 1), some (.iload_n 2, 1), some (.invokevirtual 82, 3), none, none, some (.i2l, 1), some (.lastore, 1), some (.goto 11, 3), none, none, some (.astore 4, 2), none, some (.iconst 1, 1), some (.ireturn, 1), some (.astore 4, 2), none, some (.iconst 2, 1), some (.ireturn, 1), some (.iconst 0, 1), some (.ireturn, 1)]
def g_m_L_begin : ri_Mt := (RL, yL_begin, cL_begin, 5, (some .int), g_co_L_begin, 9)
def g_co_L_run : List (Option (Instr × Nat)) := [some (.aload_n 2, 1), some (.iconst 0, 1), some (.aload_n 0, 1), some (.iload_n 1, 1), some (.invokevirtual 85, 3), none, none, some (.i2l, 1), some (.lastore, 1), some (.goto 9, 3), none, none, some (.astore_n 3, 1), some (.iconst 1, 1), some (.ireturn, 1), some (.astore_n 3, 1), some (.iconst 2, 1), some (.ireturn, 1), some (.iconst 0, 1), some (.ireturn, 1)]
def g_m_L_run : ri_Mt := (RL, yL_run, cL_run, 4, (some .int), g_co_L_run, 9)
def g_co_L_tear : List (Option (Instr × Nat)) := [some (.aload_n 1, 1), some (.iconst 0, 1), some (.aload_n 0, 1), some (.invokevirtual 88, 3), none, none, some (.i2l, 1), some (.lastore, 1), some (.goto 6, 3), none, none, some (.astore_n 2, 1), some (.iconst 1, 1), some (.ireturn, 1), some (.iconst 0, 1), some (.ireturn, 1)]
def g_m_L_tear : ri_Mt := (RL, yL_tear, cL_tear, 3, (some .int), g_co_L_tear, 9)
def g_co_L_turnBack : List (Option (Instr × Nat)) := [some (.aload_n 1, 1), some (.iconst 0, 1), some (.aload_n 0, 1), some (.invokevirtual 92, 3), none, none, some (.i2l, 1), some (.lastore, 1), some (.goto 6, 3), none, none, some (.astore_n 2, 1), some (.iconst 1, 1), some (.ireturn, 1), some (.iconst 0, 1), some (.ireturn, 1)]
def g_m_L_turnBack : ri_Mt := (RL, yL_turnBack, cL_turnBack, 3, (some .int), g_co_L_turnBack, 9)
def g_co_L_move : List (Option (Instr × Nat)) := [some (.aload_n 2, 1), some (.iconst 0, 1), some (.aload_n 0, 1), some (.iload_n 1, 1), some (.invokevirtual 95, 3), none, none, some (.i2l, 1), some (.lastore, 1), some (.goto 6, 3), none, none, some (.astore_n 3, 1), some (.iconst 1, 1), some (.ireturn, 1), some (.iconst 0, 1), some (.ireturn, 1)]
def g_m_L_move : ri_Mt := (RL, yL_move, cL_move, 4, (some .int), g_co_L_move, 9)
def g_co_L_leftmost : List (Option (Instr × Nat)) := [some (.aload_n 2, 1), some (.iconst 0, 1), some (.aload_n 0, 1), some (.iload_n 1, 1), some (.invokevirtual 98, 3), none, none, some (.i2l, 1), some (.lastore, 1), some (.goto 6, 3), none, none, some (.astore_n 3, 1), some (.iconst 1, 1), some (.ireturn, 1), some (.iconst 0, 1), some (.ireturn, 1)]
def g_m_L_leftmost : ri_Mt := (RL, yL_leftmost, cL_leftmost, 4, (some .int), g_co_L_leftmost, 9)
def g_co_L_compact : List (Option (Instr × Nat)) := [some (.aload_n 1, 1), some (.iconst 0, 1), some (.aload_n 0, 1), some (.invokevirtual 101, 3), none, none, some (.i2l, 1), some (.lastore, 1), some (.goto 6, 3), none, none, some (.astore_n 2, 1), some (.iconst 1, 1), some (.ireturn, 1), some (.iconst 0, 1), some (.ireturn, 1)]
def g_m_L_compact : ri_Mt := (RL, yL_compact, cL_compact, 3, (some .int), g_co_L_compact, 9)
def g_co_L_cheapestMove : List (Option (Instr × Nat)) := [some (.aload_n 2, 1), some (.iconst 0, 1), some (.aload_n 0, 1), some (.iload_n 1, 1), some (.invokevirtual 104, 3), none, none, some (.i2l, 1), some (.lastore, 1), some (.goto 9, 3), none, none, some (.astore_n 3, 1), some (.iconst 1, 1), some (.ireturn, 1), some (.astore_n 3, 1), some (.iconst 2, 1), some (.ireturn, 1), some (.iconst 0, 1), some (.ireturn, 1)]
def g_m_L_cheapestMove : ri_Mt := (RL, yL_cheapestMove, cL_cheapestMove, 4, (some .int), g_co_L_cheapestMove, 9)
def g_co_L_ofKind : List (Option (Instr × Nat)) := [some (.aload_n 2, 1), some (.iconst 0, 1), some (.aload_n 0, 1), some (.iload_n 1, 1), some (.invokevirtual 107, 3), none, none, some (.i2l, 1), some (.lastore, 1), some (.goto 6, 3), none, none, some (.astore_n 3, 1), some (.iconst 1, 1), some (.ireturn, 1), some (.iconst 0, 1), some (.ireturn, 1)]
def g_m_L_ofKind : ri_Mt := (RL, yL_ofKind, cL_ofKind, 4, (some .int), g_co_L_ofKind, 9)
def g_co_L_blocksAt : List (Option (Instr × Nat)) := [some (.aload_n 2, 1), some (.iconst 0, 1), some (.aload_n 0, 1), some (.iload_n 1, 1), some (.invokevirtual 110, 3), none, none, some (.i2l, 1), some (.lastore, 1), some (.goto 6, 3), none, none, some (.astore_n 3, 1), some (.iconst 1, 1), some (.ireturn, 1), some (.iconst 0, 1), some (.ireturn, 1)]
def g_m_L_blocksAt : ri_Mt := (RL, yL_blocksAt, cL_blocksAt, 4, (some .int), g_co_L_blocksAt, 9)
def g_co_L_copies : List (Option (Instr × Nat)) := [some (.aload_n 2, 1), some (.iconst 0, 1), some (.aload_n 0, 1), some (.iload_n 1, 1), some (.invokevirtual 113, 3), none, none, some (.i2l, 1), some (.lastore, 1), some (.goto 6, 3), none, none, some (.astore_n 3, 1), some (.iconst 1, 1), some (.ireturn, 1), some (.iconst 0, 1), some (.ireturn, 1)]
def g_m_L_copies : ri_Mt := (RL, yL_copies, cL_copies, 4, (some .int), g_co_L_copies, 9)
def g_co_L_split : List (Option (Instr × Nat)) := [some (.aload_n 3, 1), some (.iconst 0, 1), some (.aload_n 0, 1), some (.iload_n 1, 1), some (.iload_n 2, 1), some (.invokevirtual 116, 3), none, none, some (.i2l, 1), some (.lastore, 1), some (.goto 15, 3), none, none, some (.astore 4, 2), none, some (.iconst 1, 1), some (.ireturn, 1), some (.astore 4, 2), none, some (.iconst 2, 1), some (.ireturn, 1), some (.astore 4, 2), none, some (.iconst 3, 1), some (.ireturn, 1), some (.iconst 0, 1), some (.ireturn, 1)]
def g_m_L_split : ri_Mt := (RL, yL_split, cL_split, 5, (some .int), g_co_L_split, 9)
def g_co_L_join : List (Option (Instr × Nat)) := [some (.aload_n 2, 1), some (.iconst 0, 1), some (.aload_n 0, 1), some (.iload_n 1, 1), some (.invokevirtual 119, 3), none, none, some (.i2l, 1), some (.lastore, 1), some (.goto 9, 3), none, none, some (.astore_n 3, 1), some (.iconst 1, 1), some (.ireturn, 1), some (.astore_n 3, 1), some (.iconst 2, 1), some (.ireturn, 1), some (.iconst 0, 1), some (.ireturn, 1)]
def g_m_L_join : ri_Mt := (RL, yL_join, cL_join, 4, (some .int), g_co_L_join, 9)
def g_co_L_roundUp : List (Option (Instr × Nat)) := [some (.aload_n 2, 1), some (.iconst 0, 1), some (.aload_n 0, 1), some (.iload_n 1, 1), some (.invokevirtual 122, 3), none, none, some (.i2l, 1), some (.lastore, 1), some (.goto 9, 3), none, none, some (.astore_n 3, 1), some (.iconst 1, 1), some (.ireturn, 1), some (.astore_n 3, 1), some (.iconst 2, 1), some (.ireturn, 1), some (.iconst 0, 1), some (.ireturn, 1)]
def g_m_L_roundUp : ri_Mt := (RL, yL_roundUp, cL_roundUp, 4, (some .int), g_co_L_roundUp, 9)
def g_co_L_bestChunk : List (Option (Instr × Nat)) := [some (.aload_n 3, 1), some (.iconst 0, 1), some (.aload_n 0, 1), some (.iload_n 1, 1), some (.iload_n 2, 1), some (.invokevirtual 125, 3), none, none, some (.i2l, 1), some (.lastore, 1), some (.goto 7, 3), none, none, some (.astore 4, 2), none, some (.iconst 1, 1), some (.ireturn, 1), some (.iconst 0, 1), some (.ireturn, 1)]
def g_m_L_bestChunk : ri_Mt := (RL, yL_bestChunk, cL_bestChunk, 5, (some .int), g_co_L_bestChunk, 9)
def g_co_L_rightmost : List (Option (Instr × Nat)) := [some (.aload_n 2, 1), some (.iconst 0, 1), some (.aload_n 0, 1), some (.iload_n 1, 1), some (.invokevirtual 128, 3), none, none, some (.i2l, 1), some (.lastore, 1), some (.goto 6, 3), none, none, some (.astore_n 3, 1), some (.iconst 1, 1), some (.ireturn, 1), some (.iconst 0, 1), some (.ireturn, 1)]
def g_m_L_rightmost : ri_Mt := (RL, yL_rightmost, cL_rightmost, 4, (some .int), g_co_L_rightmost, 9)
def g_co_L_behind : List (Option (Instr × Nat)) := [some (.aload_n 2, 1), some (.iconst 0, 1), some (.aload_n 0, 1), some (.iload_n 1, 1), some (.invokevirtual 131, 3), none, none, some (.i2l, 1), some (.lastore, 1), some (.goto 6, 3), none, none, some (.astore_n 3, 1), some (.iconst 1, 1), some (.ireturn, 1), some (.iconst 0, 1), some (.ireturn, 1)]
def g_m_L_behind : ri_Mt := (RL, yL_behind, cL_behind, 4, (some .int), g_co_L_behind, 9)
def g_co_L_gapAt : List (Option (Instr × Nat)) := [some (.aload_n 2, 1), some (.iconst 0, 1), some (.aload_n 0, 1), some (.iload_n 1, 1), some (.invokevirtual 134, 3), none, none, some (.i2l, 1), some (.lastore, 1), some (.goto 6, 3), none, none, some (.astore_n 3, 1), some (.iconst 1, 1), some (.ireturn, 1), some (.iconst 0, 1), some (.ireturn, 1)]
def g_m_L_gapAt : ri_Mt := (RL, yL_gapAt, cL_gapAt, 4, (some .int), g_co_L_gapAt, 9)
def g_co_L_nextStep : List (Option (Instr × Nat)) := [some (.aload_n 2, 1), some (.iconst 0, 1), some (.aload_n 0, 1), some (.iload_n 1, 1), some (.invokevirtual 137, 3), none, none, some (.i2l, 1), some (.lastore, 1), some (.goto 6, 3), none, none, some (.astore_n 3, 1), some (.iconst 1, 1), some (.ireturn, 1), some (.iconst 0, 1), some (.ireturn, 1)]
def g_m_L_nextStep : ri_Mt := (RL, yL_nextStep, cL_nextStep, 4, (some .int), g_co_L_nextStep, 9)
def g_co_L_restoreState : List (Option (Instr × Nat)) := [some (.aload_n 1, 1), some (.iconst 0, 1), some (.aload_n 0, 1), some (.invokevirtual 140, 3), none, none, some (.i2l, 1), some (.lastore, 1), some (.goto 6, 3), none, none, some (.astore_n 2, 1), some (.iconst 1, 1), some (.ireturn, 1), some (.iconst 0, 1), some (.ireturn, 1)]
def g_m_L_restoreState : ri_Mt := (RL, yL_restoreState, cL_restoreState, 3, (some .int), g_co_L_restoreState, 9)
def g_mts_0 : List ri_Mt := [g_m_X0_init, g_m_X0_clear, g_m_X0_copyFrom, g_m_X0_find, g_m_X0_standing, g_m_X0_takenByParts, g_m_X0_nextBehind, g_m_X0_isMoved, g_m_X0_isFree, g_m_X0_usableEnd, g_m_X0_isUsable, g_m_X0_isAligned, g_m_X0_meeting, g_m_X0_meetingOthers, g_m_X0_endOfTaken, g_m_X0_nextTaken, g_m_X0_whyNotTake, g_m_X0_whyNotSize, g_m_X0_whyNoRoomFor, g_m_X0_whyNotMove, g_m_X0_needsScratch, g_m_X0_scratchFor, g_m_X0_startInTheWay, g_m_X0_numberAt, g_m_X0_write, g_m_X0_writeBlocks, g_m_X0_placeOf, g_m_X0_holderOf, g_m_X0_hasPlace, g_m_X0_isPlaceOf, g_m_X0_keepsWhole, g_m_X0_leftOverOf, g_m_X0_wipeOut, g_m_X0_make, g_m_X0_giveSize, g_m_X0_stepsOrNone, g_m_X0_beginMove, g_m_X0_doSteps, g_m_X0_doStep, g_m_X0_tearStep]
def g_mts_1 : List ri_Mt := [g_m_X0_copySectors, g_m_X0_endMove, g_m_X0_turnMove, g_m_X0_leastStart, g_m_X0_greatestStart, g_m_X0_packLeft, g_m_X0_bringsRoom, g_m_X1_init, g_m_X1_find, g_m_X1_note, g_m_X1_start, g_m_X1_size, g_m_X1_roomStart, g_m_X1_room, g_m_X1_sectors, g_m_X1_sectorsOfRooms, g_m_X1_largest, g_m_X1_mostRoom, g_m_X1_holding, g_m_X1_startFor, g_m_X1_isBetter, g_m_X2_init, g_m_X2_note, g_m_X2_takeBack, g_m_X2_forget, g_m_X3_init, g_m_X3_copyFrom, g_m_X3_isOn, g_m_X3_stop, g_m_X3_lengthOf, g_m_X3_isMovedChunk, g_m_X3_nextChunk, g_m_X3_firstBlock, g_m_X3_stepLength, g_m_X3_stepKind, g_m_X3_stepSource, g_m_X3_stepTarget, g_m_X3_placeOfBlock, g_m_X3_blocksMoved, g_m_X3_stepsLeft]
def g_mts_2 : List ri_Mt := [g_m_X3_scratchSize, g_m_X3_keepsBusy, g_m_X3_endOfBusy, g_m_X3_nextBusy, g_m_X4_init, g_m_X4_empty, g_m_X4_putSign, g_m_X4_putNumber, g_m_X4_putPart, g_m_X4_byteAt, g_m_X5_init, g_m_X5_copyFrom, g_m_X5_stands, g_m_X5_end, g_m_X5_numberOf, g_m_X5_meetsArea, g_m_X6_init, g_m_X6_hasRoomFor, g_m_X6_putBytes, g_m_X6_parseInto, g_m_X6_statement, g_m_X6_layout, g_m_X6_chunking, g_m_X6_partition, g_m_X6_locking, g_m_X6_semicolon, g_m_X6_number, g_m_X6_fail, g_m_X6_byteAt, g_m_X6_isLetter, g_m_X6_isDigit, g_m_X6_next, g_m_X6_isWord, g_m_X7_init, g_m_X7_appendInput, g_m_X7_truncateInput, g_m_X7_loadDisk, g_m_X7_errorCode, g_m_X7_errorOffset, g_m_X7_count]
def g_mts_3 : List ri_Mt := [g_m_X7_part, g_m_X7_sector, g_m_X7_owner, g_m_X7_place, g_m_X7_isWhole, g_m_X7_byStart, g_m_X7_behind, g_m_X7_overlapped, g_m_X7_used, g_m_X7_slack, g_m_X7_ofKind, g_m_X7_copies, g_m_X7_verify, g_m_X7_gap, g_m_X7_largestGap, g_m_X7_fit, g_m_X7_waste, g_m_X7_scatter, g_m_X7_gapAt, g_m_X7_reason, g_m_X7_add, g_m_X7_addBy, g_m_X7_remove, g_m_X7_lock, g_m_X7_resizeReason, g_m_X7_resize, g_m_X7_roundUp, g_m_X7_setMinimum, g_m_X7_growsTo, g_m_X7_set, g_m_X7_split, g_m_X7_join, g_m_X7_shrinkAll, g_m_X7_wipe, g_m_X7_moveReason, g_m_X7_stepsFor, g_m_X7_bestChunk, g_m_X7_leftmost, g_m_X7_rightmost, g_m_X7_begin]
def g_mts_4 : List ri_Mt := [g_m_X7_run, g_m_X7_tear, g_m_X7_turnBack, g_m_X7_move, g_m_X7_blocksAt, g_m_X7_nextStep, g_m_X7_stepSector, g_m_X7_compact, g_m_X7_compactSteps, g_m_X7_cheapestMove, g_m_X7_printDisk, g_m_X7_outputByte, g_m_X7_undo, g_m_X7_saveState, g_m_X7_restoreState, g_m_X7_gapsNow, g_m_X7_need, g_m_X7_needSector, g_m_X7_needKindAndMinimum, g_m_X7_needRule, g_m_X7_needNumberLeft, g_m_X7_needFree, g_m_X7_needSizeFor, g_m_X7_needMove, g_m_X7_needNoMove, g_m_X7_meet, g_m_X7_roundedUp, g_m_X7_roomBetween, g_m_X7_distanceOf, g_m_X7_stepsOfChunk, g_m_X7_stepsOfMove, g_m_X8_init, g_m_X8_thrown, g_m_X8_inRange, g_m_X8_fails, g_m_X8_copies, g_m_X8_clear, g_m_X8_remembers, g_m_X8_begins, g_m_X8_ends]
def g_mts_5 : List ri_Mt := [g_m_X8_of, g_m_X8_put, g_m_X8_stands, g_m_X8_partsMany, g_m_X8_isMoving, g_m_X8_isMoved, g_m_X8_isFixed, g_m_X8_up, g_m_X8_numberOf, g_m_X8_writes, g_m_X8_makes, g_m_X8_isUsable, g_m_X8_meet, g_m_X8_isTaken, g_m_X8_scratchSize, g_m_X8_isBusy, g_m_X8_whyNot, g_m_X8_isFree, g_m_X8_laysGaps, g_m_X8_roomStart, g_m_X8_roomSize, g_m_X8_mostRoom, g_m_X8_fits, g_m_X8_scratchFor, g_m_X8_whyNotMoved, g_m_X8_far, g_m_X8_stepsOf, g_m_X8_stepsBy, g_m_X8_chunks, g_m_X8_distance, g_m_X8_isAscending, g_m_X8_isChunkMoved, g_m_X8_nextChunk, g_m_X8_firstBlock, g_m_X8_blocksNext, g_m_X8_stepsLeft, g_m_X8_stepKind, g_m_X8_sourceOf, g_m_X8_targetOf, g_m_X8_copiesBlocks]
def g_mts_6 : List ri_Mt := [g_m_X8_starts, g_m_X8_step, g_m_X8_runs, g_m_X8_placeOf, g_m_X8_leftOf, g_m_X8_rightOf, g_m_X8_appendWord, g_m_X8_appendInput, g_m_X8_truncateInput, g_m_X8_byteAt, g_m_X8_advanceToken, g_m_X8_tokenLength, g_m_X8_failsAt, g_m_X8_isWord, g_m_X8_isNumber, g_m_X8_takes, g_m_X8_readSetting, g_m_X8_readPart, g_m_X8_readLock, g_m_X8_readStatement, g_m_X8_passesSemicolon, g_m_X8_readText, g_m_X8_loadDisk, g_m_X8_errorCode, g_m_X8_errorOffset, g_m_X8_gapSectors, g_m_X8_gapsNow, g_m_X8_count, g_m_X8_noPart, g_m_X8_part, g_m_X8_noSector, g_m_X8_sector, g_m_X8_ownerOf, g_m_X8_owner, g_m_X8_place, g_m_X8_whole, g_m_X8_isWhole, g_m_X8_verify, g_m_X8_nextBy, g_m_X8_standsAt]
def g_mts_7 : List ri_Mt := [g_m_X8_byStart, g_m_X8_behind, g_m_X8_gap, g_m_X8_greatestGap, g_m_X8_largestGap, g_m_X8_gapAt, g_m_X8_fit, g_m_X8_reason, g_m_X8_overlapped, g_m_X8_waste, g_m_X8_scatter, g_m_X8_sizes, g_m_X8_used, g_m_X8_slackOf, g_m_X8_slack, g_m_X8_ofKind, g_m_X8_isTold, g_m_X8_add, g_m_X8_addBy, g_m_X8_remove, g_m_X8_lock, g_m_X8_whyNotSized, g_m_X8_whyNotResized, g_m_X8_resizeReason, g_m_X8_resizes, g_m_X8_resize, g_m_X8_roundUp, g_m_X8_setMinimum, g_m_X8_growsTo, g_m_X8_split, g_m_X8_neighbour, g_m_X8_canJoin, g_m_X8_join, g_m_X8_shrinkAll, g_m_X8_wipe, g_m_X8_set, g_m_X8_moveReason, g_m_X8_stepsFor, g_m_X8_begin, g_m_X8_run]
def g_mts_8 : List ri_Mt := [g_m_X8_tear, g_m_X8_turnBack, g_m_X8_move, g_m_X8_blocksAt, g_m_X8_nextStep, g_m_X8_stepSector, g_m_X8_copies_, g_m_X8_leftmost, g_m_X8_rightmost, g_m_X8_compacts, g_m_X8_compact, g_m_X8_compactSteps, g_m_X8_cheapestMove, g_m_X8_brings, g_m_X8_bestChunk, g_m_X8_write, g_m_X8_writeNumber, g_m_X8_printDisk, g_m_X8_writePart, g_m_X8_outputByte, g_m_X8_undo, g_m_X8_saveState, g_m_X8_restoreState, g_m_L_count, g_m_L_part, g_m_L_sector, g_m_L_owner, g_m_L_place, g_m_L_isWhole, g_m_L_byStart, g_m_L_gap, g_m_L_fit, g_m_L_add, g_m_L_addBy, g_m_L_remove, g_m_L_lock, g_m_L_resizeReason, g_m_L_resize, g_m_L_setMinimum, g_m_L_growsTo]
def g_mts_9 : List ri_Mt := [g_m_L_set, g_m_L_moveReason, g_m_L_stepsFor, g_m_L_begin, g_m_L_run, g_m_L_tear, g_m_L_turnBack, g_m_L_move, g_m_L_leftmost, g_m_L_compact, g_m_L_cheapestMove, g_m_L_ofKind, g_m_L_blocksAt, g_m_L_copies, g_m_L_split, g_m_L_join, g_m_L_roundUp, g_m_L_bestChunk, g_m_L_rightmost, g_m_L_behind, g_m_L_gapAt, g_m_L_nextStep, g_m_L_restoreState]
def g_mts : List ri_Mt := g_mts_0 ++ g_mts_1 ++ g_mts_2 ++ g_mts_3 ++ g_mts_4 ++ g_mts_5 ++ g_mts_6 ++ g_mts_7 ++ g_mts_8 ++ g_mts_9
def g_cp_0 : List (Nat × ri_Lk) := [(3, 7, 0, 0, ""), (9, 0, 0, 0, ""), (15, 4, 5, 0, ""), (17, 0, 0, 1, ""), (21, 4, 3, 0, ""), (23, 32, 65, 0, "PartitionBench"), (24, 0, 0, 2, ""), (28, 0, 0, 3, ""), (31, 22, 90, 1, ""), (34, 0, 0, 4, ""), (38, 0, 0, 5, ""), (41, 0, 0, 6, ""), (44, 0, 0, 7, ""), (47, 0, 0, 8, ""), (50, 0, 0, 9, ""), (53, 0, 0, 10, ""), (56, 0, 0, 11, ""), (59, 0, 0, 12, ""), (62, 20, 68, 0, ""), (65, 0, 5, 2, ""), (68, 20, 66, 1, ""), (72, 20, 91, 1, ""), (75, 12, 0, 0, ""), (81, 20, 92, 0, ""), (85, 0, 5, 1, ""), (88, 0, 3, 0, ""), (91, 0, 5, 0, ""), (94, 0, 5, 5, ""), (98, 20, 7, 1, ""), (102, 20, 9, 0, ""), (106, 20, 95, 2, ""), (110, 20, 12, 2, ""), (114, 20, 93, 0, ""), (117, 20, 82, 1, ""), (121, 20, 83, 2, ""), (125, 20, 6, 1, ""), (129, 11, 0, 0, ""), (134, 20, 10, 2, ""), (137, 20, 11, 1, ""), (141, 20, 81, 2, ""), (144, 20, 18, 2, ""), (148, 0, 5, 3, ""), (151, 20, 13, 3, ""), (155, 20, 67, 0, ""), (158, 20, 20, 3, ""), (162, 20, 21, 3, ""), (165, 31, 188, 2, "PartitionBench"), (168, 20, 22, 4, ""), (172, 31, 185, 4, "PartitionBench"), (176, 20, 94, 1, ""), (179, 20, 24, 2, ""), (183, 20, 77, 1, ""), (186, 20, 3, 1, ""), (189, 20, 28, 2, ""), (193, 0, 3, 3, ""), (196, 20, 29, 3, ""), (199, 0, 3, 2, ""), (202, 0, 3, 8, ""), (205, 0, 3, 6, ""), (208, 20, 72, 0, ""), (211, 20, 26, 2, ""), (214, 20, 23, 1, ""), (217, 20, 27, 1, ""), (220, 0, 5, 4, ""), (223, 0, 5, 6, ""), (226, 0, 5, 7, ""), (229, 20, 25, 2, ""), (233, 20, 19, 3, ""), (236, 31, 190, 3, "PartitionBench"), (240, 0, 3, 1, ""), (241, 0, 3, 4, ""), (242, 0, 3, 5, ""), (245, 0, 3, 7, ""), (248, 20, 38, 0, ""), (251, 20, 75, 1, ""), (254, 20, 76, 1, ""), (257, 20, 73, 0, ""), (260, 20, 40, 3, ""), (264, 20, 74, 0, ""), (267, 20, 41, 0, ""), (270, 20, 43, 1, ""), (274, 20, 36, 2, ""), (277, 20, 37, 1, ""), (280, 10, 0, 0, ""), (283, 31, 187, 3, "PartitionBench"), (100015, 6, 2, 0, "")]
def g_cp_1 : List (Nat × ri_Lk) := [(3, 7, 0, 0, ""), (11, 0, 1, 0, ""), (15, 0, 1, 1, ""), (18, 0, 1, 2, ""), (22, 0, 0, 7, ""), (27, 0, 1, 3, ""), (28, 0, 0, 5, ""), (31, 20, 9, 0, ""), (35, 20, 14, 1, ""), (39, 20, 15, 1, ""), (42, 20, 49, 2, ""), (46, 20, 50, 1, ""), (49, 31, 186, 2, "PartitionBench"), (53, 20, 51, 1, ""), (56, 31, 187, 3, "PartitionBench"), (60, 20, 53, 1, ""), (63, 10, 0, 0, ""), (68, 31, 185, 4, "PartitionBench"), (72, 20, 60, 3, ""), (76, 20, 52, 1, "")]
def g_cp_2 : List (Nat × ri_Lk) := [(3, 7, 0, 0, ""), (9, 4, 0, 0, ""), (11, 0, 2, 0, ""), (17, 22, 0, 0, ""), (18, 0, 2, 1, ""), (22, 20, 2, 1, ""), (26, 0, 2, 2, ""), (29, 11, 0, 0, ""), (100009, 6, 1, 0, "")]
def g_cp_3 : List (Nat × ri_Lk) := [(3, 7, 0, 0, ""), (9, 0, 3, 0, ""), (15, 0, 3, 6, ""), (18, 0, 3, 1, ""), (21, 0, 3, 2, ""), (24, 0, 3, 3, ""), (27, 0, 3, 4, ""), (30, 0, 3, 5, ""), (33, 0, 3, 7, ""), (36, 0, 3, 8, ""), (40, 20, 71, 0, ""), (44, 20, 69, 1, ""), (48, 20, 73, 0, ""), (51, 31, 188, 2, "PartitionBench"), (55, 20, 72, 0, ""), (58, 20, 74, 0, ""), (61, 20, 70, 1, ""), (65, 20, 67, 0, ""), (69, 31, 189, 2, "PartitionBench"), (72, 11, 0, 0, ""), (77, 31, 185, 4, "PartitionBench"), (81, 20, 80, 0, ""), (84, 20, 81, 2, "")]
def g_cp_4 : List (Nat × ri_Lk) := [(1, 7, 0, 0, ""), (9, 0, 4, 0, ""), (13, 0, 4, 1, ""), (17, 20, 86, 1, ""), (21, 0, 5, 0, ""), (26, 20, 87, 1, ""), (29, 0, 5, 1, ""), (32, 0, 5, 2, ""), (35, 0, 5, 5, "")]
def g_cp_5 : List (Nat × ri_Lk) := [(3, 7, 0, 0, ""), (9, 0, 5, 0, ""), (15, 0, 5, 1, ""), (18, 0, 5, 2, ""), (21, 0, 5, 3, ""), (24, 0, 5, 4, ""), (27, 0, 5, 5, ""), (31, 0, 5, 6, ""), (34, 0, 5, 7, "")]
def g_cp_6 : List (Nat × ri_Lk) := [(3, 7, 0, 0, ""), (9, 0, 6, 0, ""), (15, 0, 6, 2, ""), (19, 0, 6, 3, ""), (22, 0, 6, 1, ""), (25, 0, 6, 4, ""), (28, 0, 6, 8, ""), (32, 0, 6, 9, ""), (35, 0, 6, 10, ""), (38, 0, 6, 11, ""), (41, 20, 111, 0, ""), (44, 9, 0, 0, "disk"), (46, 20, 112, 1, ""), (50, 20, 107, 1, ""), (54, 20, 106, 2, ""), (58, 0, 6, 7, ""), (61, 20, 1, 1, ""), (67, 20, 105, 0, ""), (71, 0, 6, 5, ""), (74, 20, 100, 1, ""), (78, 9, 0, 0, "part"), (80, 20, 103, 1, ""), (83, 9, 0, 0, "lock"), (85, 20, 104, 1, ""), (88, 9, 0, 0, "chunk"), (90, 20, 102, 1, ""), (93, 20, 101, 1, ""), (96, 9, 0, 0, "head"), (98, 9, 0, 0, "tail"), (100, 9, 0, 0, "align"), (102, 20, 4, 0, ""), (106, 0, 0, 5, ""), (108, 0, 0, 6, ""), (110, 0, 0, 7, ""), (112, 0, 0, 8, ""), (114, 20, 9, 0, ""), (117, 20, 11, 1, ""), (120, 20, 12, 2, ""), (124, 20, 33, 4, ""), (128, 20, 3, 1, ""), (132, 0, 5, 5, ""), (137, 0, 6, 6, ""), (140, 20, 108, 1, ""), (144, 21, 109, 1, ""), (147, 21, 110, 1, "")]
def g_cp_7 : List (Nat × ri_Lk) := [(1, 7, 0, 0, ""), (7, 4, 0, 0, ""), (9, 22, 0, 0, ""), (10, 0, 7, 0, ""), (16, 0, 7, 1, ""), (19, 0, 7, 2, ""), (22, 4, 2, 0, ""), (24, 22, 61, 0, ""), (25, 0, 7, 4, ""), (29, 4, 1, 0, ""), (31, 32, 47, 0, "PartitionBench"), (32, 0, 7, 5, ""), (36, 4, 6, 0, ""), (38, 32, 96, 0, "PartitionBench"), (39, 0, 7, 6, ""), (43, 4, 4, 0, ""), (45, 32, 84, 0, "PartitionBench"), (46, 0, 7, 7, ""), (50, 20, 1, 1, ""), (54, 20, 97, 1, ""), (58, 20, 98, 1, ""), (61, 0, 6, 1, ""), (65, 20, 99, 1, ""), (69, 20, 2, 1, ""), (73, 20, 64, 0, ""), (76, 0, 7, 3, ""), (80, 20, 85, 0, ""), (83, 20, 4, 0, ""), (87, 0, 6, 2, ""), (90, 0, 6, 3, ""), (93, 0, 0, 4, ""), (94, 0, 0, 5, ""), (97, 0, 0, 6, ""), (100, 0, 0, 7, ""), (103, 0, 0, 8, ""), (106, 20, 175, 0, ""), (110, 20, 54, 0, ""), (113, 0, 1, 2, ""), (116, 0, 0, 10, ""), (119, 0, 0, 11, ""), (122, 0, 0, 12, ""), (125, 0, 2, 2, ""), (128, 5, 0, 0, "java/lang/IllegalArgumentException"), (130, 9, 0, 0, "what is out of range"), (132, 13, 0, 0, "java/lang/IllegalArgumentException"), (135, 20, 176, 1, ""), (139, 0, 5, 1, ""), (144, 0, 5, 2, ""), (147, 0, 5, 3, ""), (150, 0, 5, 4, ""), (153, 0, 5, 5, ""), (156, 0, 5, 6, ""), (159, 0, 5, 7, ""), (162, 20, 177, 1, ""), (165, 20, 23, 1, ""), (169, 20, 27, 1, ""), (172, 5, 0, 0, "java/lang/IndexOutOfBoundsException"), (174, 9, 0, 0, "no such block"), (176, 13, 0, 0, "java/lang/IndexOutOfBoundsException"), (177, 20, 26, 2, ""), (181, 20, 30, 1, ""), (185, 9, 0, 0, "index is negative"), (187, 20, 6, 1, ""), (190, 0, 5, 0, ""), (193, 20, 12, 2, ""), (197, 20, 9, 0, ""), (200, 20, 5, 0, ""), (203, 0, 0, 1, ""), (207, 20, 8, 1, ""), (210, 9, 0, 0, "kind is out of range"), (212, 20, 92, 0, ""), (216, 20, 31, 1, ""), (220, 9, 0, 0, "no such gap"), (222, 20, 50, 1, ""), (224, 20, 51, 1, ""), (226, 20, 53, 1, ""), (229, 20, 52, 1, ""), (232, 20, 56, 0, ""), (235, 20, 179, 1, ""), (238, 20, 59, 2, ""), (242, 20, 55, 0, ""), (245, 20, 58, 1, ""), (248, 20, 16, 2, ""), (251, 20, 178, 3, ""), (255, 9, 0, 0, "the area cannot take a partition"), (257, 20, 180, 0, ""), (260, 20, 62, 1, ""), (263, 20, 33, 4, ""), (267, 5, 0, 0, "java/lang/IllegalStateException"), (269, 9, 0, 0, "there is no start"), (271, 13, 0, 0, "java/lang/IllegalStateException"), (272, 20, 181, 1, ""), (276, 20, 17, 2, ""), (279, 20, 182, 2, ""), (283, 20, 34, 2, ""), (286, 21, 186, 2, ""), (289, 9, 0, 0, "minimum is out of range"), (291, 20, 18, 2, ""), (294, 9, 0, 0, "value is out of range"), (296, 9, 0, 0, "size is out of range"), (298, 20, 11, 1, ""), (301, 9, 0, 0, "the rest would not begin at a multiple of ALIGN"), (303, 20, 93, 0, ""), (306, 9, 0, 0, "there is no neighbour"), (308, 9, 0, 0, "the neighbour is of another kind"), (310, 20, 32, 0, ""), (313, 20, 19, 3, ""), (317, 20, 35, 3, ""), (320, 20, 43, 1, ""), (323, 20, 44, 1, ""), (326, 9, 0, 0, "the partition cannot be moved there"), (328, 20, 36, 2, ""), (331, 0, 0, 2, ""), (335, 20, 79, 0, ""), (340, 9, 0, 0, "steps is out of range"), (342, 20, 183, 0, ""), (345, 20, 37, 1, ""), (348, 20, 39, 0, ""), (351, 0, 3, 8, ""), (354, 9, 0, 0, "a chunk is in the scratch area"), (356, 20, 42, 0, ""), (359, 20, 67, 0, ""), (362, 0, 3, 0, ""), (365, 0, 3, 2, ""), (368, 0, 3, 3, ""), (371, 0, 3, 6, ""), (374, 0, 3, 4, ""), (375, 0, 3, 5, ""), (378, 0, 3, 7, ""), (381, 9, 0, 0, "where is out of range"), (383, 20, 78, 0, ""), (386, 20, 73, 0, ""), (389, 0, 3, 1, ""), (390, 20, 74, 0, ""), (393, 20, 71, 0, ""), (396, 20, 72, 0, ""), (399, 20, 76, 1, ""), (402, 20, 75, 1, ""), (405, 20, 184, 0, ""), (408, 20, 45, 0, ""), (411, 20, 57, 0, ""), (414, 20, 46, 3, ""), (418, 20, 86, 1, ""), (421, 20, 7, 1, ""), (424, 20, 88, 2, ""), (428, 0, 4, 1, ""), (429, 20, 89, 1, ""), (432, 20, 63, 1, ""), (435, 9, 0, 0, "no state is saved"), (437, 20, 48, 1, ""), (440, 20, 3, 1, ""), (442, 5, 0, 0, "java/util/NoSuchElementException"), (444, 9, 0, 0, "no such partition"), (446, 13, 0, 0, "java/util/NoSuchElementException"), (447, 9, 0, 0, "no such sector"), (449, 9, 0, 0, "rule is out of range"), (451, 9, 0, 0, "there are 8 partitions"), (453, 9, 0, 0, "the partition is locked or is moved"), (455, 9, 0, 0, "the partition cannot have this size"), (457, 9, 0, 0, "no move is on"), (459, 9, 0, 0, "a move is on"), (461, 10, 0, 0, ""), (466, 21, 189, 2, ""), (100007, 6, 1, 0, "")]
def g_cp_8 : List (Nat × ri_Lk) := [(1, 7, 0, 0, ""), (7, 0, 8, 0, ""), (13, 0, 8, 1, ""), (16, 0, 8, 2, ""), (19, 0, 8, 3, ""), (22, 0, 8, 4, ""), (25, 0, 8, 8, ""), (28, 0, 8, 9, ""), (31, 0, 8, 11, ""), (34, 0, 8, 14, ""), (38, 0, 8, 22, ""), (41, 0, 8, 23, ""), (44, 0, 8, 24, ""), (47, 20, 196, 1, ""), (51, 0, 8, 7, ""), (54, 0, 8, 5, ""), (57, 21, 195, 5, ""), (61, 14, 7, 0, ""), (63, 21, 193, 3, ""), (67, 20, 200, 2, ""), (71, 20, 205, 1, ""), (75, 20, 208, 2, ""), (78, 20, 201, 3, ""), (82, 20, 209, 2, ""), (86, 21, 212, 4, ""), (90, 11, 0, 0, ""), (95, 20, 204, 0, ""), (99, 20, 214, 0, ""), (103, 20, 211, 2, ""), (107, 20, 213, 3, ""), (111, 20, 215, 2, ""), (114, 0, 8, 10, ""), (117, 20, 217, 1, ""), (120, 21, 207, 2, ""), (123, 20, 219, 1, ""), (127, 10, 0, 0, ""), (130, 20, 218, 0, ""), (133, 20, 220, 1, ""), (136, 21, 225, 2, ""), (139, 20, 223, 3, ""), (143, 21, 226, 5, ""), (147, 20, 230, 0, ""), (150, 20, 228, 0, ""), (153, 20, 232, 0, ""), (156, 20, 233, 0, ""), (159, 20, 229, 0, ""), (162, 20, 234, 0, ""), (165, 20, 236, 0, ""), (168, 20, 238, 1, ""), (171, 20, 237, 1, ""), (174, 20, 239, 1, ""), (177, 20, 241, 0, ""), (180, 20, 231, 1, ""), (183, 20, 224, 2, ""), (186, 0, 8, 12, ""), (189, 20, 246, 1, ""), (192, 0, 8, 17, ""), (195, 20, 249, 1, ""), (198, 0, 8, 18, ""), (201, 0, 8, 19, ""), (204, 0, 8, 20, ""), (207, 14, 97, 0, ""), (209, 14, 122, 0, ""), (211, 14, 48, 0, ""), (213, 14, 57, 0, ""), (215, 0, 8, 15, ""), (218, 0, 8, 16, ""), (221, 20, 251, 0, ""), (233, 20, 252, 1, ""), (236, 20, 254, 2, ""), (240, 20, 250, 0, ""), (243, 0, 8, 21, ""), (246, 20, 255, 3, ""), (250, 20, 210, 4, ""), (254, 9, 0, 0, "head"), (256, 20, 253, 1, ""), (260, 20, 256, 4, ""), (264, 9, 0, 0, "tail"), (266, 9, 0, 0, "align"), (268, 9, 0, 0, "chunk"), (270, 9, 0, 0, "part"), (272, 20, 257, 0, ""), (275, 9, 0, 0, "lock"), (277, 20, 258, 0, ""), (280, 9, 0, 0, "disk"), (282, 20, 260, 0, ""), (285, 20, 259, 0, ""), (288, 20, 261, 0, ""), (291, 0, 8, 13, ""), (294, 0, 8, 6, ""), (298, 20, 203, 0, ""), (301, 14, 11, 0, ""), (303, 20, 194, 2, ""), (307, 20, 265, 0, ""), (310, 20, 266, 0, ""), (313, 20, 202, 1, ""), (316, 14, 6, 0, ""), (318, 20, 268, 2, ""), (321, 20, 270, 1, ""), (324, 20, 243, 2, ""), (327, 20, 272, 1, ""), (330, 20, 275, 1, ""), (333, 20, 278, 1, ""), (336, 20, 279, 1, ""), (339, 14, 3, 0, ""), (341, 20, 283, 0, ""), (344, 14, 2, 0, ""), (346, 20, 222, 2, ""), (349, 20, 216, 2, ""), (352, 20, 291, 0, ""), (355, 20, 206, 1, ""), (358, 20, 293, 1, ""), (361, 14, 9, 0, ""), (363, 21, 296, 3, ""), (366, 20, 197, 0, ""), (369, 20, 301, 2, ""), (372, 20, 302, 2, ""), (375, 20, 304, 2, ""), (378, 20, 310, 1, ""), (381, 20, 311, 1, ""), (384, 14, 32, 0, ""), (386, 14, 16, 0, ""), (388, 20, 227, 2, ""), (391, 20, 240, 2, ""), (394, 20, 235, 0, ""), (397, 14, 999, 0, ""), (399, 20, 242, 1, ""), (402, 14, 8, 0, ""), (404, 20, 244, 1, ""), (407, 20, 245, 1, ""), (410, 20, 329, 0, ""), (413, 20, 198, 0, ""), (416, 20, 199, 0, ""), (419, 14, 600, 0, ""), (421, 20, 221, 0, ""), (424, 20, 333, 3, ""), (427, 0, 8, 25, ""), (430, 20, 335, 1, ""), (433, 20, 338, 1, ""), (436, 20, 336, 1, "")]
def g_cp_9 : List (Nat × ri_Lk) := [(7, 20, 119, 1, ""), (8, 4, 7, 0, ""), (13, 5, 0, 0, "java/lang/IllegalArgumentException"), (15, 20, 120, 2, ""), (19, 5, 0, 0, "java/util/NoSuchElementException"), (21, 20, 121, 1, ""), (24, 5, 0, 0, "java/lang/IndexOutOfBoundsException"), (26, 20, 122, 1, ""), (29, 20, 123, 2, ""), (32, 20, 124, 1, ""), (36, 20, 125, 1, ""), (39, 20, 133, 2, ""), (42, 20, 135, 2, ""), (45, 20, 140, 4, ""), (49, 5, 0, 0, "java/lang/IllegalStateException"), (51, 20, 141, 4, ""), (54, 20, 142, 1, ""), (57, 20, 143, 2, ""), (61, 20, 144, 2, ""), (64, 20, 145, 2, ""), (67, 20, 147, 2, ""), (70, 20, 148, 1, ""), (73, 20, 149, 2, ""), (76, 20, 154, 2, ""), (79, 20, 155, 2, ""), (82, 20, 159, 2, ""), (85, 20, 160, 1, ""), (88, 20, 161, 0, ""), (92, 20, 162, 0, ""), (95, 20, 163, 1, ""), (98, 20, 157, 1, ""), (101, 20, 167, 0, ""), (104, 20, 169, 1, ""), (107, 20, 130, 1, ""), (110, 20, 164, 1, ""), (113, 20, 131, 1, ""), (116, 20, 150, 2, ""), (119, 20, 151, 1, ""), (122, 20, 146, 1, ""), (125, 20, 156, 2, ""), (128, 20, 158, 1, ""), (131, 20, 126, 1, ""), (134, 20, 138, 1, ""), (137, 20, 165, 1, ""), (140, 20, 174, 0, ""), (143, 22, 113, 0, ""), (144, 4, 8, 0, ""), (146, 22, 191, 0, ""), (147, 20, 114, 5, ""), (151, 20, 247, 5, ""), (152, 20, 115, 1, ""), (155, 20, 248, 1, ""), (156, 20, 116, 0, ""), (159, 20, 262, 0, ""), (160, 20, 117, 0, ""), (163, 20, 263, 0, ""), (164, 20, 118, 0, ""), (167, 20, 264, 0, ""), (168, 21, 343, 3, ""), (173, 20, 267, 1, ""), (174, 20, 192, 0, ""), (177, 21, 344, 4, ""), (180, 20, 269, 2, ""), (181, 21, 345, 3, ""), (183, 20, 271, 1, ""), (184, 21, 346, 3, ""), (186, 20, 273, 1, ""), (187, 21, 347, 4, ""), (189, 20, 274, 2, ""), (190, 21, 348, 3, ""), (192, 20, 276, 1, ""), (193, 21, 349, 3, ""), (195, 20, 280, 1, ""), (196, 21, 350, 4, ""), (198, 20, 282, 2, ""), (199, 20, 134, 0, ""), (202, 20, 284, 0, ""), (203, 21, 351, 4, ""), (205, 20, 286, 2, ""), (206, 20, 139, 2, ""), (209, 20, 287, 2, ""), (210, 20, 127, 2, ""), (213, 20, 288, 2, ""), (214, 21, 352, 6, ""), (217, 20, 297, 4, ""), (218, 21, 353, 6, ""), (220, 20, 298, 4, ""), (221, 21, 354, 3, ""), (223, 20, 299, 1, ""), (224, 21, 355, 4, ""), (227, 20, 300, 2, ""), (228, 21, 356, 4, ""), (230, 20, 303, 2, ""), (231, 21, 357, 4, ""), (233, 20, 305, 2, ""), (234, 21, 358, 4, ""), (236, 20, 307, 2, ""), (237, 21, 359, 3, ""), (239, 20, 308, 1, ""), (240, 21, 360, 4, ""), (242, 20, 315, 2, ""), (243, 21, 361, 4, ""), (245, 20, 316, 2, ""), (246, 21, 362, 4, ""), (248, 20, 317, 2, ""), (249, 21, 363, 4, ""), (251, 20, 318, 2, ""), (252, 21, 364, 3, ""), (254, 20, 319, 1, ""), (255, 21, 365, 2, ""), (258, 20, 320, 0, ""), (259, 21, 366, 2, ""), (261, 20, 321, 0, ""), (262, 21, 367, 3, ""), (264, 20, 322, 1, ""), (265, 21, 368, 3, ""), (267, 20, 327, 1, ""), (268, 21, 369, 2, ""), (270, 20, 330, 0, ""), (271, 20, 168, 0, ""), (274, 20, 331, 0, ""), (275, 21, 370, 3, ""), (277, 20, 332, 1, ""), (278, 20, 136, 0, ""), (281, 20, 289, 0, ""), (282, 20, 137, 0, ""), (286, 20, 290, 0, ""), (287, 20, 128, 0, ""), (291, 20, 292, 0, ""), (292, 20, 129, 0, ""), (295, 20, 294, 0, ""), (296, 21, 371, 3, ""), (298, 20, 295, 1, ""), (299, 21, 372, 3, ""), (301, 20, 323, 1, ""), (302, 21, 373, 3, ""), (304, 20, 326, 1, ""), (305, 21, 374, 4, ""), (307, 20, 309, 2, ""), (308, 21, 375, 3, ""), (310, 20, 312, 1, ""), (311, 20, 152, 0, ""), (314, 20, 313, 0, ""), (315, 20, 153, 0, ""), (318, 20, 314, 0, ""), (319, 21, 376, 3, ""), (321, 20, 306, 1, ""), (322, 21, 377, 4, ""), (324, 20, 334, 2, ""), (325, 21, 378, 3, ""), (327, 20, 328, 1, ""), (328, 21, 379, 3, ""), (330, 20, 281, 1, ""), (331, 21, 380, 3, ""), (333, 20, 285, 1, ""), (334, 20, 132, 0, ""), (337, 20, 277, 0, ""), (338, 21, 381, 3, ""), (340, 20, 324, 1, ""), (341, 20, 166, 2, ""), (345, 20, 325, 2, ""), (346, 20, 170, 0, ""), (349, 20, 337, 0, ""), (350, 20, 171, 1, ""), (353, 20, 339, 1, ""), (354, 20, 172, 0, ""), (357, 20, 340, 0, ""), (358, 20, 173, 0, ""), (361, 20, 341, 0, ""), (362, 21, 382, 2, ""), (364, 20, 342, 0, "")]
def g_cps : List (List (Nat × ri_Lk)) := [g_cp_0, g_cp_1, g_cp_2, g_cp_3, g_cp_4, g_cp_5, g_cp_6, g_cp_7, g_cp_8, g_cp_9]
def g_STR : List (String × Nat × String) := [("PartitionBench$Setup", 44, "disk"), ("PartitionBench$Setup", 78, "part"), ("PartitionBench$Setup", 83, "lock"), ("PartitionBench$Setup", 88, "chunk"), ("PartitionBench$Setup", 96, "head"), ("PartitionBench$Setup", 98, "tail"), ("PartitionBench$Setup", 100, "align"), ("PartitionBench", 130, "what is out of range"), ("PartitionBench", 444, "no such partition"), ("PartitionBench", 447, "no such sector"), ("PartitionBench", 174, "no such block"), ("PartitionBench", 185, "index is negative"), ("PartitionBench", 220, "no such gap"), ("PartitionBench", 449, "rule is out of range"), ("PartitionBench", 210, "kind is out of range"), ("PartitionBench", 289, "minimum is out of range"), ("PartitionBench", 255, "the area cannot take a partition"), ("PartitionBench", 451, "there are 8 partitions"), ("PartitionBench", 269, "there is no start"), ("PartitionBench", 453, "the partition is locked or is moved"), ("PartitionBench", 455, "the partition cannot have this size"), ("PartitionBench", 294, "value is out of range"), ("PartitionBench", 326, "the partition cannot be moved there"), ("PartitionBench", 340, "steps is out of range"), ("PartitionBench", 457, "no move is on"), ("PartitionBench", 354, "a chunk is in the scratch area"), ("PartitionBench", 459, "a move is on"), ("PartitionBench", 296, "size is out of range"), ("PartitionBench", 381, "where is out of range"), ("PartitionBench", 301, "the rest would not begin at a multiple of ALIGN"), ("PartitionBench", 306, "there is no neighbour"), ("PartitionBench", 308, "the neighbour is of another kind"), ("PartitionBench", 435, "no state is saved"), ("PartitionBenchModel", 280, "disk"), ("PartitionBenchModel", 254, "head"), ("PartitionBenchModel", 264, "tail"), ("PartitionBenchModel", 266, "align"), ("PartitionBenchModel", 268, "chunk"), ("PartitionBenchModel", 270, "part"), ("PartitionBenchModel", 275, "lock")]
def g_G : ri_Tb := (g_cls, g_aty, g_mts, g_cps, g_fts)
end
section
def t_mem0 : ri_Me := [.inl (7, [.null, .null, .null, .int 0, .null, .null, .null, .null])]
theorem t_c : (ri_call g_G 9000 5 113 [.index 0] [] t_mem0).map (fun r => (r.1.length, r.2.1)) = some (1, 178) := by decide +kernel
end
