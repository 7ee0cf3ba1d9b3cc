/-! RI: the run is sound -/
section RIS
def ri_warm : Jvm.Cond → Bool
  | .fieldLinkNest _ _ _ _ _ _ => true
  | .methodLinkNest _ _ _ _ => true
  | .castable _ _ => true
  | .declares _ => true
  | .arrayOver (.object _) => true
  | w => goodWord w
theorem ri_warm_s {w : Jvm.Cond} {s U : State} (hw : ri_warm w = true) (hW : s.WarmedH U.vm) (h : ∀ a : Array Value, w.before a s = true) : ∀ a : Array Value, w.before a U = true := by
  intro a
  by_cases hg : goodWord w = true
  · exact word_at hW (good_of_word hg) (h #[])
  · unfold ri_warm at hw
    split at hw
    · exact va_Nw.use rfl (va_Nw.warmF hW (h #[]))
    · exact va_Nw.use rfl (va_Nw.warmM hW (h #[]))
    · exact va_Nw.use rfl (va_Nw.warmC hW (h #[]))
    · exact va_Nw.use rfl (va_Nw.warmD hW (h #[]))
    · exact va_AO.use (va_AO.moved hW.alike (va_AO.of (h #[])))
    · exact absurd hw hg
/-- what holds of the tables at a state -/
def ri_St (ALL : List Jvm.Cond) (STR : List (String × Nat × String)) (G : ri_Tb) (D : va_G) (tyc : Nat → ClassId) (sa : String → Nat → Nat) (A : Nat → Prop) (U : State) : Prop :=
  (∀ w ∈ ALL, ∀ a : Array Value, w.before a U = true) ∧ va_K D (ri_cls G) (ri_tys (ri_aty G) tyc) U ∧ (∀ q ∈ STR, vk_R q.1 q.2.1 q.2.2 (sa q.1 q.2.1) U) ∧ vx_Zq Bundle.tN "UNASSIGNED_STACK" Bundle.steD A U U.heap ∧ vx_Zq Bundle.tN "SUPPRESSED_SENTINEL" Bundle.listD A U U.heap ∧ (∀ q ∈ ri_nc G, q.2.2 = false → va_Nc q.1 q.2.1 U) ∧ sx_S STR sa A U
theorem ri_St_go {ALL : List Jvm.Cond} {STR : List (String × Nat × String)} {G : ri_Tb} {D : va_G} {tyc : Nat → ClassId} {sa : String → Nat → Nat} {A B : Nat → Prop} {s U : State} (hwm : ∀ w ∈ ALL, ri_warm w = true) (h : ri_St ALL STR G D tyc sa A s) (hW : s.WarmedH U.vm)
    (hk : ∀ q : Nat, q < s.heap.size → ¬ A q → U.heap[q]? = s.heap[q]?) (hAB : ∀ q, B q → A q) : ri_St ALL STR G D tyc sa B U :=
  ⟨fun w hw => ri_warm_s (hwm w hw) hW (h.1 w hw), va_K.moved hW.alike h.2.1, fun q hq => vk_R.warm hW (h.2.2.1 q hq), vx_Zq.narrow (vx_Zq.moved hW.alike (vx_Zq.kept h.2.2.2.1 hk)) hAB, vx_Zq.narrow (vx_Zq.moved hW.alike (vx_Zq.kept h.2.2.2.2.1 hk)) hAB, fun q hq h0 => va_Nc.moved hW.alike (h.2.2.2.2.2.1 q hq h0), sx_S_go h.2.2.2.2.2.2 hW.alike hk hAB⟩
section RIS1
variable (G : ri_Tb) (D : va_G) (tyc : Nat → ClassId) (A : Nat → Prop) (ρ : Nat → Int32) (sa : String → Nat → Nat) (n0 : Nat) (ad0 : Nat → Nat)
/-- a way out of a method, at a state -/
def ri_At (lf : ri_Lf) (ad : Nat → Nat) (st t : State) : Prop := ri_ag n0 ad0 ad ∧ (∀ q ∈ lf.1, ri_sat ρ q) ∧ n0 ≤ lf.2.1.length ∧ ri_okM lf.2.1.length lf.2.1 ∧ va_P D (ri_cls G) (ri_w ρ sa (ri_aty G) tyc ad lf.2.1) t.heap ∧ va_D A (ri_w ρ sa (ri_aty G) tyc ad lf.2.1) ∧ va_F A st t
def ri_Qc (LT : List ri_Lf) : Array Value → State → Outcome → State → Prop := fun _ st o t => ∃ lf ∈ LT, ∃ (tm : Option Jvm.Term) (ad : Nat → Nat), lf.2.2 = .inl tm ∧ o = .returned (tm.map (ri_cv ρ sa ad)) ∧ (∀ z, tm = some z → ri_ok lf.2.1.length z) ∧ ri_At G D tyc A ρ sa n0 ad0 lf ad st t
def ri_XC (LT : List ri_Lf) : String → State → State → Prop := fun E st t => ∃ lf ∈ LT, ∃ (ad : Nat → Nat), lf.2.2 = .inr E ∧ ri_At G D tyc A ρ sa n0 ad0 lf ad st t
end RIS1
def ri_Pc (ALL : List Jvm.Cond) (STR : List (String × Nat × String)) (G : ri_Tb) (D : va_G) (tyc : Nat → ClassId) (ρ : Nat → Int32) (sa : String → Nat → Nat) (ad : Nat → Nat) (sz : Nat) (args : List Jvm.Term) (mem : ri_Me) : Array Value → State → Prop := fun v U =>
  v = (args.map (ri_cv ρ sa ad)).toArray ∧ U.heap.size = sz ∧ va_P D (ri_cls G) (ri_w ρ sa (ri_aty G) tyc ad mem) U.heap ∧ va_D (fun _ => True) (ri_w ρ sa (ri_aty G) tyc ad mem) ∧ ri_St ALL STR G D tyc sa (va_A (ri_w ρ sa (ri_aty G) tyc ad mem) sz) U
theorem ri_Pc_blind {ALL : List Jvm.Cond} {STR : List (String × Nat × String)} {G : ri_Tb} {D : va_G} {tyc : Nat → ClassId} {ρ : Nat → Int32} {sa : String → Nat → Nat} {ad : Nat → Nat} {sz : Nat} {args : List Jvm.Term} {mem : ri_Me} (hwm : ∀ w ∈ ALL, ri_warm w = true) : FrameBlind (ri_Pc ALL STR G D tyc ρ sa ad sz args mem) := by
  intro a U g mk q
  obtain ⟨q1, q2, q3, q4, q5⟩ := q
  exact ⟨q1, q2, q3, q4, ri_St_go (U := U.calling g mk a) hwm q5 (State.WarmedH.refl U) (fun _ _ _ => rfl) (fun _ h => h)⟩
/-- the rooms: at depth d -/
def ri_rm (d LC mc ms : Nat) : Room := { frames := d + 1, cells := mc, slots := ms, locals := 100 + d * LC }
def ri_Con (l : Launch) (ALL : List Jvm.Cond) (STR : List (String × Nat × String)) (G : ri_Tb) (LC d : Nat) (mi : Nat) (args : List Jvm.Term) (cs : List ri_Cd) (mem : ri_Me) (rs : ri_Rs) : Prop :=
  ∀ M, (ri_mts G)[mi]? = some M → ∀ (D : va_G) (tyc : Nat → ClassId) (ρ : Nat → Int32) (sa : String → Nat → Nat) (ad : Nat → Nat) (sz : Nat), (∀ q ∈ cs, ri_sat ρ q) → ri_okM mem.length mem → (∀ t ∈ args, ri_ok mem.length t) → (∀ o ∈ rs.2.2.2, ri_obs ρ o) →
    vx_Met l (ri_nm M) [ri_hw M] (ri_rm d LC rs.2.1 rs.2.2.1) (ri_Pc ALL STR G D tyc ρ sa ad sz args mem)
      (ri_Qc G D tyc (va_A (ri_w ρ sa (ri_aty G) tyc ad mem) sz) ρ sa mem.length ad rs.1) (ri_XC G D tyc (va_A (ri_w ρ sa (ri_aty G) tyc ad mem) sz) ρ sa mem.length ad rs.1) rs.2.1 rs.2.2.1 (va_A (ri_w ρ sa (ri_aty G) tyc ad mem) sz)
section RIS2
variable {p : Program} {l : Launch} {e : Env} {R : Room} {s : State} {m : MethodId} {args : Array Value} {below : List Frame} {meth : Method} {c : Code} {H : Heap} {locs : List Loc} {cells slots : Nat} {Q : State → Prop}
variable {mc ms : Nat} {free : Addr → Prop} {A : Nat → Prop} {H0 : Heap} {pc : Nat} {ls : Array Slot} {st0 rest : List Value}
/-- behind a call that answers or throws -/
theorem ri_use {Qa : State → Outcome → State → Prop} {XC : String → State → State → Prop} (hr : vx_Run p l e R s m args below meth c H locs cells slots mc ms (F0 m pc ls st0) rest Qa XC free)
    (kk : ∀ (v : Option Value) (st₀ t : State) (H1 : Heap) (L : List Loc), st₀.heap = H → t.heap = H1 → s.vm.Alike t.vm → (∀ q ∈ L, free q.base) → Qa st₀ (.returned v) t → W p l e R s m args below meth c H1 (locs ++ L) (cells + mc) (slots + ms) Q (F0 m (pc + 3) ls (v.toList ++ rest)))
    (kx : ∀ (q : Addr) (E : String) (ce : Cell) (st₀ t : State) (H1 : Heap) (L : List Loc), st₀.heap = H → t.heap = H1 → s.vm.Alike t.vm → (∀ q ∈ L, free q.base) → XC E st₀ t → H1[q]? = some ce → ce.vm = .none → s.vm.findClass E = some ce.cls → vx_W p l e R s m args below meth c H1 (locs ++ L) (cells + mc) (slots + ms) Q (F0 m pc ls rest) q) :
    W p l e R s m args below meth c H locs cells slots Q (F0 m pc ls st0) := by
  intro T hT X
  rcases hr T hT X with ⟨v, st₀, t, T', L, h0, X', hL, e1, e2, hq, st⟩ | ⟨q, st₀, t, T', L, E, ce, h0, X', hL, e1, e2, hq, hce, hcv, hcl, st⟩
  · obtain ⟨t2, a1, b1⟩ := kk v st₀ t T'.heap L h0 e1.symm (by rw [← e2]; exact X'.warmed.alike) hL hq T' rfl X'
    exact ⟨t2, st t2 a1, b1⟩
  · obtain ⟨t2, a1, b1⟩ := kx q E ce st₀ t T'.heap L h0 e1.symm (by rw [← e2]; exact X'.warmed.alike) hL hq (by rw [e1]; exact hce) hcv hcl T' rfl X'
    exact ⟨t2, st.trans a1, b1⟩
end RIS2
end RIS
