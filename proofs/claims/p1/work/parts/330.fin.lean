/-! THE CLAIM OUT OF ONE WALK OF THE LAW'S BODY (the frame of it is SKELETON.whole, a starting text) -/
def R_law : String := "PartitionBenchLaw"
def lw_P (b : Addr) (xs : List Int32) (args : Array Value) (s : State) : Prop := args = #[.ref b] ∧ s.IntsAt b xs ∧ xs.length ≤ 6 ∧ (Jvm.Cond.and given_1 narrow_1).before args s = true
/-- what a walk over the start with the record d0 says of its end, said of the start itself -/
theorem lw_closed {s t : State} {o : Outcome} {d0 : Drawn} {L : List Loc} {k n : Nat} (hd0 : s.drawn.sameBut d0 lw_cs) (hv : ∃ v, o = .returned v) (hW : (s.setDrawn d0).WarmedH t.vm) (hs : (s.setDrawn d0).sameButNew ({ t with vm := s.vm } : State) L k n) : State.butDraws s t lw_cs (fun t1 => Framed s o t1 L k n) := by
  have h2 : t.drawn = d0 := congrArg State.drawn hs.1
  refine ⟨⟨hv, hW, State.sameButNew.setDrawn hs s.drawn⟩, ?_, by decide⟩
  rw [h2]
  exact hd0
def lw_Q (_ : Array Value) (s : State) (o : Outcome) (t : State) : Prop := o = .returned (some (.int 1)) ∧ State.butDraws s t lw_cs (fun t1 => Framed s o t1 [] 600002 7302232)
def lw_Z (below : List Frame) (a : Array Value) (s : State) : State → Prop := fun t => ∃ o, t.status = .running ∧ Ended t below o ∧ lw_Q a s o t
/-- the law's own end, with 1 on the stack, nothing written that was there before, its room as the claim has it; d0: the record of draws at this point (at the entry s.drawn: begin with 'refine W.base ?_' and 'have hd0 := Drawn.sameBut.refl s.drawn lw_cs') -/
theorem lw_ret {p : Program} {l : Launch} {e : Env} {s : State} {m : MethodId} {below : List Frame} {meth : Method} {c : Code} {b : Nat} {d0 : Drawn} (hd0 : s.drawn.sameBut d0 lw_cs) (hx : p.tables.exec = Jvm.exec) (hb : c.code = code) (hr : meth.sig.returnType = ret) (hlocks : meth.locks = false) {pc : Nat} {H : Heap} {ls : Array Slot} (hdg : decode code pc = .ok (.ireturn, 1)) : W p l e room_1 (s.setDrawn d0) m #[Value.ref b] below meth c H [] 600002 7302232 (lw_Z below #[Value.ref b] s) (F0 m pc ls [.int 1]) := by
  intro T hT X
  obtain ⟨fs, hret, hrun, hended, hW, hframe⟩ := X.leave (v := some (.int 1)) (hlocks := hlocks) (fun h => by rw [hr] at h; cases h)
  have hmeth' : T.vm.method? m = some meth := X.method'
  refine ⟨T.setFrames fs, ?_, .returned (some (.int 1)), hrun, hended, rfl, lw_closed hd0 ⟨_, rfl⟩ hW hframe⟩
  jvm_step X.here [X.here.top, hx, hb, hdg, hmeth', hr, ret, narrow_b1]
  (try refine ⟨rfl, ?_⟩); (try refine ⟨rfl, ?_⟩)
  first | (intro acts; rw [hret _ acts rfl rfl rfl]) | rw [hret _ _ rfl rfl rfl]
  exact Steps.refl _
/-- what holds at the law's entry: the machine, the code, the tables' words (any of lw_tbl by 'hts w (by decide +kernel)'), the script of L ints xs at the cell b, what the Statement gives of the start (any of its parts by flat_of_before) -/
def lw_At (p : Program) (s : State) (m : MethodId) (meth : Method) (c : Code) (b L : Nat) (xs : Nat → Int32) : Prop :=
  p.tables.exec = Jvm.exec ∧ c.code = code ∧ meth.sig.returnType = ret ∧ c.maxLocals = 9 ∧ s.vm.findClass R_law = some m.cls ∧ (∀ w ∈ lw_tbl, w.before #[Value.ref b] s = true) ∧ va_X b L xs s s.heap ∧ b < s.heap.size ∧ meth.locks = false ∧ (Jvm.Cond.and given_1 narrow_1).before #[Value.ref b] s = true
theorem g_ex {f : ri_Rs → Bool} {o : Option ri_Rs} (h : rz_o false f o = true) : ∃ r, o = some r ∧ f r = true := by
  cases o with
  | none => cases h
  | some r => exact ⟨r, rfl, h⟩
/-- the state behind the constructors is come to -/
def g_okE (r : ri_Rs) : Bool := r.1.isEmpty && (Nat.ble r.2.1 2000 && (Nat.ble r.2.2.1 40000 && r.2.2.2.isEmpty))
noncomputable def g_pre : Bool := rz_o false g_okE (ry_runB g_G (ry_call g_G 30000 8) g_lawP (ri_gs g_pi 23 g_lv1 [] [] g_mem1 1000 10000 ri_B0) 13 0 [(0, .string "" 0)] [] [] [])
theorem t_pre : g_pre = true := by decide +kernel
theorem g_fit1 : ri_fitB g_pi g_lv1 [] g_mem1 = true := by decide +kernel
/-- a script that is too short for a call -/
noncomputable def g_short (k : Nat) : Bool := rz_o false (ri_okB 1000 10000) (ry_runB g_G (ry_call g_G 30000 8) g_lawP ri_B0 20 27 g_lv1 [.int (Int32.ofNat k), .int 0] [] g_mem1)
theorem t_s0 : g_short 0 = true := by decide +kernel
theorem t_s1 : g_short 1 = true := by decide +kernel
theorem t_s2 : g_short 2 = true := by decide +kernel
theorem t_s3 : g_short 3 = true := by decide +kernel
theorem t_s4 : g_short 4 = true := by decide +kernel
theorem t_s5 : g_short 5 = true := by decide +kernel
theorem t_short (k : Nat) (hk : k < 6) : g_short k = true := by
  match k, hk with
  | 0, _ => exact t_s0
  | 1, _ => exact t_s1
  | 2, _ => exact t_s2
  | 3, _ => exact t_s3
  | 4, _ => exact t_s4
  | 5, _ => exact t_s5
  | k + 6, h => omega
theorem g_preW : ∃ r, ry_runB g_G (ry_call g_G 30000 8) g_lawP (ri_gs g_pi 23 g_lv1 [] [] g_mem1 1000 10000 ri_B0) 13 0 [(0, .string "" 0)] [] [] [] = some r ∧ g_okE r = true := g_ex (f := g_okE) t_pre
theorem g_c23 : (ri_co g_lawP)[23]? = some (some (.iload 4, 2)) := by decide +kernel
theorem g_c25 : (ri_co g_lawP)[25]? = some (some (.aload_n 0, 1)) := by decide +kernel
theorem g_c26 : (ri_co g_lawP)[26]? = some (some (.arraylength, 1)) := by decide +kernel
theorem g_hasRoom {s : State} {pl : Platform} {r r' : Room} (hf : r.frames ≤ r'.frames) (hl : r.locals ≤ r'.locals) (hc : r.cells ≤ r'.cells) (hs : r.slots ≤ r'.slots) (h : s.hasRoom pl r' = true) : s.hasRoom pl r = true := by
  simp only [State.hasRoom, Bool.and_eq_true, decide_eq_true_eq] at h ⊢
  obtain ⟨⟨⟨⟨h1, h2, h3, h4, h5, h6⟩, h7⟩, h8⟩, h9⟩ := h
  exact ⟨⟨⟨⟨by omega, by omega, by omega, by omega, by omega, h6⟩, by omega⟩, by omega⟩, h9⟩
section GF
variable {p : Program} {l : Launch} {e : Env} {R : Room} {s : State} {m : MethodId} {args : Array Value} {below : List Frame} {meth : Method} {c : Code} {D : va_G} {tyc : Nat → ClassId} {A : Nat → Prop} {ρ : Nat → Int32} {sa : String → Nat → Nat} {ad0 : Nat → Nat} {mcT msT : Nat}
theorem g_hscP : ri_hsc g_lawP ρ sa A s := fun z => absurd z (by decide)
theorem g_shortW {k : Nat} (h : g_short k = true) : ∃ r, ry_runB g_G (ry_call g_G 30000 8) g_lawP ri_B0 20 27 g_lv1 [.int (Int32.ofNat k), .int 0] [] g_mem1 = some r ∧ ri_okB 1000 10000 r = true := g_ex (f := ri_okB 1000 10000) h
theorem g_coP : ∀ pc i len, (ri_co g_lawP)[pc]? = some (some (i, len)) → decode (ri_by g_lawP) pc = .ok (i, len) := g_co
theorem g_go27 {L : Nat} (hl : l.stackTraces = false) (hC : ri_Cx l g_ALL g_STR sa g_G g_lawP D tyc A p s m args meth c R 30 8 mcT msT) (hL : L < 6) :
    ri_Go p l e R s m args below meth c g_G g_lawP D tyc A ρ sa ad0 mcT msT 27 g_lv1 [.int (Int32.ofNat L), .int 0] [] g_mem1 1000 10000 := by
  obtain ⟨r, hr, h9⟩ := g_shortW (t_short L hL)
  exact g_one g_coP hl g_hscP hC hr h9
theorem g_p23 {nL : Nat} : ri_pure nL (.iload 4) g_lv1 [] = some (2, g_lv1, [.int 0]) := rfl
theorem g_p25 {nL : Nat} : ri_pure nL (.aload_n 0) g_lv1 [.int 0] = some (1, g_lv1, [.string "" 0, .int 0]) := rfl
theorem g_less {b L : Nat} {xs : Nat → Int32} (hl : l.stackTraces = false) (hC : ri_Cx l g_ALL g_STR sa g_G g_lawP D tyc A p s m args meth c R 30 8 mcT msT) (hX : va_X b L xs s s.heap) (hbl : b < s.heap.size) (hbA : ¬ A b) (hsab : sa "" 0 = b) (hL : L < 6) :
    ri_Go p l e R s m args below meth c g_G g_lawP D tyc A ρ sa ad0 mcT msT 23 g_lv1 [] [] g_mem1 1000 10000 := by
  have hx := hC.1.1.1
  have hb := hC.1.1.2.1
  have hgo := g_go27 (e := e) (below := below) (ρ := ρ) (ad0 := ad0) hl hC hL
  have d3 := g_coP _ _ _ g_c23
  have d5 := g_coP _ _ _ g_c25
  have d6 := g_coP _ _ _ g_c26
  generalize g_mem1 = M9 at hgo ⊢
  intro ad ls H locs cells slots h1 h2 h3 h4 h5 h6 h7 h8 h9 h10 h11 h12 h13 h14
  refine ri_pure_W (st := []) hx hb g_p23 d3 h3 (fun ls2 hl2 => ?_)
  refine ri_pure_W hx hb g_p25 d5 hl2 (fun ls3 hl3 => ?_)
  rw [List.map_cons, List.map_cons, List.map_nil]
  show W p l e R s m args below meth c H locs cells slots _ (F0 m 26 ls3 [.ref (sa "" 0), .int 0])
  rw [hsab]
  refine va_slen hx hb hX hbl hbA h6 d6 ?_
  exact hgo ad ls3 H locs cells slots h1 h2 hl3 h4 h5 h6 h7 h8 (fun t ht => by
    rcases List.mem_cons.mp ht with rfl | ht
    · trivial
    · rw [List.mem_singleton.mp ht]; trivial) h10 h11 h12 h13 h14
theorem g_entry (hl : l.stackTraces = false) (hC : ri_Cx l g_ALL g_STR sa g_G g_lawP D tyc A p s m args meth c R 30 8 mcT msT) (h23 : ri_Go p l e R s m args below meth c g_G g_lawP D tyc A ρ sa ad0 mcT msT 23 g_lv1 [] [] g_mem1 1000 10000) :
    ri_Go p l e R s m args below meth c g_G g_lawP D tyc A ρ sa ad0 mcT msT 0 [(0, .string "" 0)] [] [] [] 2000 40000 := by
  obtain ⟨r, hr, h9⟩ := g_preW
  unfold g_okE at h9
  simp only [Bool.and_eq_true] at h9
  refine g_stage g_coP hl g_hscP hC (fun pc lv st cs mem rs hB => ?_) hr h9.1 h9.2.1 h9.2.2.1 h9.2.2.2
  rcases ri_gs_s g_fit1 h23 hB with ⟨rfl, hgo⟩ | hr9
  · exact hgo
  · cases hr9
end GF
set_option maxHeartbeats 4000000 in
/-- THE LAW, from its entry -/
theorem whole_start {p : Program} {e : Env} {s : State} {m : MethodId} {below : List Frame} {meth : Method} {c : Code} (l : Launch) (hflags : l.flags = flags0) {b L : Nat} {xs : Nat → Int32} (hL : L ≤ 6) (C0 : lw_At p s m meth c b L xs) (hex : ∀ x ∈ c.exceptionTable.toList, False) : W p l e room_1 s m #[Value.ref b] below meth c s.heap [] 0 0 (lw_Z below #[Value.ref b] s) (entryFrame m ([Value.ref b] : List Value).toArray 9) := by
  obtain ⟨hx, hb, hr, hml, hown, hts, hX, hbl, hlocks, hgv⟩ := C0
  have hl : l.stackTraces = false := by
    unfold Launch.stackTraces
    rw [hflags]
    decide +kernel
  obtain ⟨D, tyc, hSt⟩ := g_world (p := p) (m := m) (meth := meth) (c := c) (L := L) (xs := xs) hts hgv
  have hsab : g_sa s b "" 0 = b := if_pos rfl
  have hexn : c.exceptionTable.toList = [] := List.eq_nil_iff_forall_not_mem.mpr fun x hx => hex x hx
  obtain ⟨t1, t2, t3, t4, t5, t6, t7, t8⟩ := tb_TB
  have hC : ri_Cx l g_ALL g_STR (g_sa s b) g_G g_law D tyc (fun q => s.heap.size ≤ q) p s m #[Value.ref b] meth c (ri_rm 9 30 20000 200000) 30 8 20000 200000 :=
    ⟨⟨⟨hx, hb, hml, hown, fun h => absurd h (by decide)⟩, tb_lkLaw, t1, t2, fun w hw => hSt.1 w hw _, hSt.2.1, fun q h => h, hSt.2.2.1⟩, hSt, tb_warm, hr, hlocks, hexn, hl, rfl, t4, t5, t8⟩
  have hCP : ri_Cx l g_ALL g_STR (g_sa s b) g_G g_lawP D tyc (fun q => s.heap.size ≤ q) p s m #[Value.ref b] meth c (ri_rm 9 30 20000 200000) 30 8 20000 200000 :=
    ⟨⟨⟨hx, hb, hml, hown, fun h => absurd h (by decide)⟩, tb_lkLawP, t1, t2, fun w hw => hSt.1 w hw _, hSt.2.1, fun q h => h, hSt.2.2.1⟩, hSt, tb_warm, hr, hlocks, hexn, hl, rfl, t4, t5, t8⟩
  have hbA : ¬ (fun q : Nat => s.heap.size ≤ q) b := Nat.not_le.mpr hbl
  have h23 : ri_Go p l e (ri_rm 9 30 20000 200000) s m #[Value.ref b] below meth c g_G g_lawP D tyc (fun q => s.heap.size ≤ q) xs (g_sa s b) (fun _ => 0) 20000 200000 23 g_lv1 [] [] g_mem1 1000 10000 := by
    rcases Nat.lt_or_ge L 6 with h6 | h6
    · exact g_less hl hCP hX hbl hbA hsab h6
    · have e6 : L = 6 := by omega
      subst e6
      have hsc : ri_hsc g_law xs (g_sa s b) (fun q => s.heap.size ≤ q) s := fun _ => by rw [hsab]; exact ⟨hX, hbl, hbA⟩
      exact g_six hl hsc hC
  have hgo := g_entry hl hCP h23
  have hl0 := lv_entry ([.ref b]) (n := 9) (Nat.le_of_ble_eq_true rfl)
  rw [lg_entry_eq]
  generalize (lg_sl ([.ref b]) ++ List.replicate (9 - (lg_sl ([.ref b])).length) Slot.unset).toArray = ls at hl0 ⊢
  have hl1 : lv_has ls (ri_mx g_lawP) (ri_lc xs (g_sa s b) (fun _ => 0) [(0, .string "" 0)]) := by
    show lv_has ls 9 [(0, .ref (g_sa s b "" 0))]
    rw [hsab]
    exact hl0
  have hW := hgo (fun _ => 0) ls s.heap [] 0 0 (fun k hk => absurd hk (Nat.not_lt_zero k)) (Nat.le_refl 0) hl1 (fun k q hk => (by cases hk)) ⟨fun i j p q h => (by cases h), fun k q h => (by cases h)⟩ va_S.rf (fun e he => (by cases he)) (fun q hq => by rw [List.mem_singleton.mp hq]; trivial) (fun t ht => (by cases ht)) (fun q hq => (by cases hq)) (fun x hx => (by cases hx)) (by decide) (by decide) (fun o ho => (by cases ho))
  intro T hT X
  have X9 : Stand p l e (ri_rm 9 30 20000 200000) s m #[Value.ref b] below meth c T [] 0 0 := { X with room := g_hasRoom (by decide) (by decide) (by decide) (by decide) X.room }
  obtain ⟨t, a1, o, b1, b2, hq⟩ := hW T hT X9
  refine ⟨t, a1, o, b1, b2, ?_⟩
  rcases hq with ⟨⟨lf, hm, tm, ad', e1, e2, -⟩, Ls, ⟨hv, hWm, hsame⟩, hfree⟩ | ⟨q, eo, E, ce, Ls, ⟨lf, hm, ad', e1, -⟩, -⟩
  · rw [List.mem_singleton.mp hm] at e1
    cases e1
    have hs2 := hsame.weaken (l' := []) (fun y hy hlt => absurd hlt (Nat.not_lt.mpr (hfree y hy))) (show 20000 ≤ 600002 by decide) (show 200000 ≤ 7302232 by decide)
    exact ⟨e2, lw_closed (d0 := s.drawn) (Drawn.sameBut.refl s.drawn lw_cs) hv hWm hs2⟩
  · rw [List.mem_singleton.mp hm] at e1
    cases e1
set_option maxHeartbeats 4000000 in
theorem lw_walk (l : Launch) (hflags : l.flags = flags0) (b : Addr) (xs : List Int32) : MetFree l x (headSpec (Jvm.Cond.code x code maxLocals ret :: tables_1) room_1) (lw_P b xs) (fun _ _ _ _ _ => True) lw_Q := by
  refine MetFree.of_bodyS (code := code) (maxLocals := maxLocals) (ret := ret) (by decide) ?_ ?_
  · intro args s m h hn
    obtain ⟨meth, c, h1, h2, h3, h4, h5, h6, -, -⟩ := Cond.code_spec hn (atoms_spec (ws := Jvm.Cond.code x code maxLocals ret :: tables_1) h _ List.mem_cons_self)
    exact ⟨meth, c, h1, h2, h3, h4, h5, h6⟩
  · intro p e s m args below meth c s₁ B hml0 hP _
    obtain ⟨rfl, hx, hbd, hgv⟩ := hP
    obtain ⟨scr, harrAt, hlist, hof, hsmall⟩ := hx
    obtain ⟨hcb, hkn, -, -⟩ := State.arrayAt?_spec harrAt
    have hown : s.vm.findClass R_law = some m.cls := findClass_of_methodNamed B.named
    have hts0 : ∀ c ∈ (Jvm.Cond.code x code maxLocals ret :: tables_1), c.before #[Value.ref b] s = true := atoms_spec (ws := Jvm.Cond.code x code maxLocals ret :: tables_1) B.pre
    have hts : ∀ w ∈ lw_tbl, w.before #[Value.ref b] s = true := k2_hts_sels lw_privs (fun w hw => hts0 w (List.mem_cons_of_mem _ hw)) lw_privs_ok
    have hml : c.maxLocals = 9 := B.maxLocals_eq (hts0 _ List.mem_cons_self)
    have X₀ : Stand p l e room_1 s m #[Value.ref b] below meth c s₁ [] 0 0 := Stand.of_body B
    have hh0 : s₁.heap = s.heap := by rw [B.state]; rfl
    have hsz : scr.slots.size = xs.length := by rw [← Array.length_toList, hlist, List.length_map]
    have hval : ∀ j : Nat, j < xs.length → scr.slots[j]? = some (.int (xs.getD j 0)) := fun j hj => by
      rw [← Array.getElem?_toList, hlist]
      simp [hj]
    have hbl : b < s.heap.size := (Array.getElem?_eq_some_iff.mp hcb).1
    have hX : va_X b xs.length (fun j => xs.getD j 0) s s.heap := ⟨scr, hcb, hof, hkn, hsz, hval⟩
    have K : W p l e room_1 s m #[Value.ref b] below meth c s₁.heap [] 0 0 (lw_Z below #[Value.ref b] s) (entryFrame m ([Value.ref b] : List Value).toArray 9) := by
      rw [hh0]
      have hex : ∀ x ∈ c.exceptionTable.toList, False := by
        obtain ⟨meth9, c9, h1, h2, -, -, -, -, h7, -⟩ := Cond.code_spec B.named (hts0 _ List.mem_cons_self)
        cases Option.some.inj (h1.symm.trans B.method)
        cases Option.some.inj (h2.symm.trans X₀.code)
        intro x hx
        rw [Array.isEmpty_iff.mp h7] at hx
        cases hx
      exact whole_start l hflags hbd ⟨B.exec, B.bytes, B.returns, hml, hown, hts, hX, hbl, B.notSynchronized, hgv⟩ hex
    obtain ⟨t, a1, o, b1, b2, b3⟩ := K s₁ rfl X₀
    exact ⟨t, o, a1, b1, b2, b3⟩
theorem lw_pre_spec {args : Array Value} {s : State} (h : (Jvm.Cond.and given_1 narrow_1).before args s = true) (hr : rest_1_c.before args s = true) : ∃ (b : Addr) (xs : List Int32), lw_P b xs args s := by
  have hs := flat_of_before _ h
  have hq := flat_of_before _ hr
  have hc : (Cond.count 1).before args s = true := hs _ (by decide +kernel)
  have harr : (Cond.arrayOf (.arg 0) .int).before args s = true := hs _ (by decide +kernel)
  have hle : (Cond.le (.length (.arg 0)) (.int 6)).before args s = true := hs _ (by decide +kernel)
  have hlen : (Cond.isInt (.length (.arg 0))).before args s = true := hq _ (by decide +kernel)
  have hall : (Cond.all (.arg 0) (.isInt (.elem (.arg 0) (.index 0)))).before args s = true := hq _ (by decide +kernel)
  obtain ⟨b, xs, hb, hx⟩ := State.ints_of_pre rfl harr hlen hall
  have hsm : xs.length < 2 ^ 31 := hx.choose_spec.2.2.2
  have hev : (Term.length (.arg 0)).eval args s none [] s = some (.int xs.length.toInt32) := hx.length_eval hb
  have hv := Cond.le_ints hev (show (Term.int 6).eval args s none [] s = some (.int 6) from rfl)
  have hd : xs.length.toInt32 ≤ 6 := by
    simpa [Cond.before, Cond.holds, hv] using hle
  have hN : xs.length ≤ 6 := (Int32.ofNat_le_ofNat hsm (by decide)).mp (show Int32.ofNat xs.length ≤ Int32.ofNat 6 from hd)
  exact ⟨b, xs, Cond.one_arg hc (show args[0]? = some (.ref b) from hb), hx, hN, h⟩
theorem lw_comes (l : Launch) (hflags : l.flags = flags0) : Comes l x (Jvm.Cond.code x code maxLocals ret :: tables_1) room_1 (fun tb e args s => Calls_1 tb e args s ∧ rest_1 tb e args s ∧ Pre_1 tb e args s)
    (fun _ _ args s o t => lw_Q args s o t) := by
  intro p e ha hc hk s m args below hf hfit hheap happ hpre
  obtain ⟨b, xs, hP⟩ := lw_pre_spec hpre.2.2 hpre.2.1
  obtain ⟨k, o, h1, h2, h3, hQ⟩ := lw_walk l hflags b xs p e ha hc hk s m args below hf ((Spec.applies_iff_loose hf).mp happ).1 hP trivial
  exact ⟨k, o, h1, h2, h3, hQ⟩
theorem lw_frame {s t : State} {o : Outcome} {args : Array Value} (h : State.butDraws s t lw_cs (fun t1 => Framed s o t1 [] 600002 7302232)) :
    State.butDraws s t [Jvm.Choice.named "NaN.bits"] (fun t1 => Framed s o t1 (fieldLocs frame_1_writes args s ++ arrayLocs frame_1_arrays args s ++ staticLocs frame_1_statics s) 600002 7302232) := h
theorem lw_limb (L : Cond) (hL : ∀ (args : Array Value) (s t : State), L.after args s (.returned (some (.int 1))) t = true) :
    ArmFor flags0 classFile x code maxLocals ret World_1 tables_1 room_1 Calls_1 rest_1 Pre_1
      (fun tb e a s o t => postC L tb e a s o t ∧ State.butDraws s t [Jvm.Choice.named "NaN.bits"] (fun t1 => Framed s o t1 (fieldLocs frame_1_writes a s ++ arrayLocs frame_1_arrays a s ++ staticLocs frame_1_statics s) 600002 7302232)) := by
  intro l hflags _ _ p e ha hc hk s m args below hf hfit hheap happ hpre
  obtain ⟨k, o, h1, h2, h3, rfl, hF⟩ := lw_comes l hflags p e ha hc hk s m args below hf hfit hheap happ hpre
  exact ⟨k, _, h1, h2, h3, hL args s _, lw_frame hF⟩
theorem i_vc : Claimed_1_1 ∧ Claimed_1_2 := ⟨lw_limb limb_1_1 (fun args s t => by simp [limb_1_1, Cond.after, Cond.holds, Cond.value]), lw_limb limb_1_2 (fun args s t => Cond.after_iff.mpr (by
  first | (rw [show limb_1_2 = Cond.eq .result (.int 1) from rfl, Cond.eq_ints (x := 1) (y := 1) rfl rfl]; simp; done) | (simp [limb_1_2, Cond.value, Term.eval]; done)))⟩
