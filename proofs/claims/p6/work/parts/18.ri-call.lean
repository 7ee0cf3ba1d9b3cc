/-! RI: calls -/
section RIY
section RIY1
variable {p : Program} {l : Launch} {e : Env} {R : Room} {s : State} {m : MethodId} {args : Array Value} {below : List Frame} {meth : Method} {c : Code}
variable {ALL : List Jvm.Cond} {STR : List (String × Nat × String)} {G : ri_Tb} {M : ri_Mt} {D : va_G} {tyc : Nat → ClassId} {A : Nat → Prop}
variable {ρ : Nat → Int32} {sa : String → Nat → Nat} {n0 LC d mcT msT : Nat} {ad0 : Nat → Nat} {LT : List ri_Lf} {lv : List (Nat × Jvm.Term)} {st rest : List Jvm.Term} {mem : ri_Me} {pc idx len : Nat} {cs : List ri_Cd} {rs r1 : ri_Rs} {K : ri_K} {call : ri_Call}
theorem ri_A1 {ad : Nat → Nat} {H : Heap} {locs : List Loc} (hD : va_D A (ri_w ρ sa (ri_aty G) tyc ad mem)) (hS : va_S A s.heap H locs) (hA : ∀ q, s.heap.size ≤ q → A q) : ∀ q, va_A (ri_w ρ sa (ri_aty G) tyc ad mem) H.size q → A q := by
  intro q h
  rcases h with ⟨k, e, h⟩ | h
  · exact hD.2 k (q, e) h
  · exact hA q (Nat.le_trans hS.1 h)
/-- where a method's handlers let an exception pass -/
theorem ri_find_n {E : String} (hlk : ri_lkOK ALL STR G) (hM : ri_lkM ALL STR G M) (hts : ∀ w ∈ ALL, w.before args s = true) (hnc : ∀ q ∈ ri_nc G, q.2.2 = false → va_Nc q.1 q.2.1 s) : ∀ (hh : List (Nat × Nat × Nat × Nat)), ri_find G M pc E hh = some none → ∀ z ∈ tableOf hh, covers z pc = false ∨ (z.catchType ≠ 0 ∧ ∃ nm : String, (Cond.classLink (ri_own M) z.catchType nm).before args s = true ∧ va_Nc E nm s)
  | [], h, z, hz => by cases hz
  | (a, b, hp, ct) :: l, h, z, hz => by
    unfold ri_find at h
    split at h
    · next hc =>
      split at h
      · next x y nm hcp =>
        split at h
        · next q hq =>
          split at h
          · cases h
          · next h0 =>
            split at h
            · cases h
            · next hf =>
              rcases List.mem_cons.mp hz with rfl | hz
              · have h2 := List.find?_some hq
                simp only [Bool.and_eq_true, beq_iff_eq] at h2
                have h3 := hnc q (List.mem_of_find?_eq_some hq) (by simpa using hf)
                rw [h2.1, h2.2] at h3
                exact Or.inr ⟨h0, nm, hts _ (ri_cp_s hlk hM hcp).1, h3⟩
              · exact ri_find_n hlk hM hts hnc l h z hz
        · cases h
      · cases h
    · next hc =>
      rcases List.mem_cons.mp hz with rfl | hz
      · left
        show (decide (a ≤ pc) && decide (pc < b)) = false
        rw [Bool.and_eq_false_iff, decide_eq_false_iff_not, decide_eq_false_iff_not]
        omega
      · exact ri_find_n hlk hM hts hnc l h z hz
/-- where one of them catches it -/
theorem ri_find_c {E : String} {hp : Nat} (hlk : ri_lkOK ALL STR G) (hM : ri_lkM ALL STR G M) (hts : ∀ w ∈ ALL, w.before args s = true) (hnc : ∀ q ∈ ri_nc G, q.2.2 = false → va_Nc q.1 q.2.1 s) (hcs : ∀ q ∈ ri_nc G, q.2.2 = true → Jvm.Cond.castable q.1 q.2.1 ∈ ALL) : ∀ (hh : List (Nat × Nat × Nat × Nat)), ri_find G M pc E hh = some (some hp) →
    ∃ (pre : List ExceptionTableEntry) (x : ExceptionTableEntry) (suf : List ExceptionTableEntry) (nm : String), tableOf hh = pre ++ x :: suf ∧ (∀ z ∈ pre, covers z pc = false ∨ (z.catchType ≠ 0 ∧ ∃ nm : String, (Cond.classLink (ri_own M) z.catchType nm).before args s = true ∧ va_Nc E nm s)) ∧ covers x pc = true ∧ x.catchType ≠ 0 ∧ x.handlerPc = hp ∧ (Cond.classLink (ri_own M) x.catchType nm).before args s = true ∧ (Cond.castable E nm).before args s = true
  | [], h => by cases h
  | (a, b, h0, ct) :: l, h => by
    have skip : ri_find G M pc E l = some (some hp) → (covers (⟨a, b, h0, ct⟩ : ExceptionTableEntry) pc = false ∨ ((⟨a, b, h0, ct⟩ : ExceptionTableEntry).catchType ≠ 0 ∧ ∃ nm : String, (Cond.classLink (ri_own M) (⟨a, b, h0, ct⟩ : ExceptionTableEntry).catchType nm).before args s = true ∧ va_Nc E nm s)) → ∃ (pre : List ExceptionTableEntry) (x : ExceptionTableEntry) (suf : List ExceptionTableEntry) (nm : String), tableOf ((a, b, h0, ct) :: l) = pre ++ x :: suf ∧ (∀ z ∈ pre, covers z pc = false ∨ (z.catchType ≠ 0 ∧ ∃ nm : String, (Cond.classLink (ri_own M) z.catchType nm).before args s = true ∧ va_Nc E nm s)) ∧ covers x pc = true ∧ x.catchType ≠ 0 ∧ x.handlerPc = hp ∧ (Cond.classLink (ri_own M) x.catchType nm).before args s = true ∧ (Cond.castable E nm).before args s = true := by
      intro h hz
      obtain ⟨pre, x, suf, nm, e1, e2, e3⟩ := ri_find_c hlk hM hts hnc hcs l h
      refine ⟨⟨a, b, h0, ct⟩ :: pre, x, suf, nm, ?_, fun z hz2 => ?_, e3⟩
      · show _ :: tableOf l = _
        rw [e1]; rfl
      · rcases List.mem_cons.mp hz2 with rfl | hz2
        · exact hz
        · exact e2 z hz2
    unfold ri_find at h
    split at h
    · next hc =>
      split at h
      · next x y nm hcp =>
        split at h
        · next q hq =>
          have h2 := List.find?_some hq
          simp only [Bool.and_eq_true, beq_iff_eq] at h2
          have hqm := List.mem_of_find?_eq_some hq
          split at h
          · cases h
          · next hct =>
            split at h
            · next hf =>
              cases h
              have h3 := hcs q hqm hf
              rw [h2.1, h2.2] at h3
              refine ⟨[], ⟨a, b, hp, ct⟩, tableOf l, nm, rfl, fun z hz => (by cases hz), ?_, hct, rfl, hts _ (ri_cp_s hlk hM hcp).1, hts _ h3⟩
              show (decide (a ≤ pc) && decide (pc < b)) = true
              rw [Bool.and_eq_true, decide_eq_true_iff, decide_eq_true_iff]
              exact hc
            · next hf =>
              have h3 := hnc q hqm (by simpa using hf)
              rw [h2.1, h2.2] at h3
              exact skip h (Or.inr ⟨hct, nm, hts _ (ri_cp_s hlk hM hcp).1, h3⟩)
        · cases h
      · cases h
    · next hc =>
      refine skip h (Or.inl ?_)
      show (decide (a ≤ pc) && decide (pc < b)) = false
      rw [Bool.and_eq_false_iff, decide_eq_false_iff_not, decide_eq_false_iff_not]
      omega
theorem ri_ers_has {ad : Nat → Nat} {ls : Array Slot} {nL i : Nat} {q : Nat} (h : lv_has ls nL ((i, Value.ref q) :: (ri_lc ρ sa ad lv).filter (fun q => !(q.1 == i) && !(q.1 + 1 == i && q.2.category == 2)))) : lv_has ls nL (ri_lc ρ sa ad (ri_ers lv i)) := by
  refine ri_has_sub h fun q hq => ?_
  obtain ⟨z, hz, rfl⟩ := List.mem_map.mp hq
  obtain ⟨h1, h2⟩ := List.mem_filter.mp hz
  refine List.mem_cons_of_mem _ (List.mem_filter.mpr ⟨List.mem_map.mpr ⟨z, h1, rfl⟩, ?_⟩)
  have e : ((ri_cv ρ sa ad z.2).category == 2) = ri_wide z.2 := by
    rw [Bool.eq_iff_iff, beq_iff_eq]; exact ri_cat2
  show (!(z.1 == i) && !(z.1 + 1 == i && (ri_cv ρ sa ad z.2).category == 2)) = true
  rw [e]; exact h2
theorem ri_back_W {ad : Nat → Nat} {ls : Array Slot} {H : Heap} {locs : List Loc} {cells slots : Nat} {st0 : List Value} {L : List ri_Lf} {mc ms : Nat} {r2 : ri_Rs} {va : Array Value} (hC : ri_Cx l ALL STR sa G M D tyc A p s m args meth c R LC d mcT msT) (hcode : ∀ pc i len, (ri_co M)[pc]? = some (some (i, len)) → decode (ri_by M) pc = .ok (i, len)) (hK : ∀ pc lv st cs mem rs, K pc lv st cs mem = some rs → ri_So p l e R s m args below meth c G M D tyc A ρ sa n0 ad0 LT mcT msT pc lv st cs mem rs)
    (hrun : vx_Run p l e R s m args below meth c H locs cells slots mc ms (F0 m pc ls st0) (rest.map (ri_cv ρ sa ad)) (ri_Qc G D tyc (va_A (ri_w ρ sa (ri_aty G) tyc ad mem) H.size) ρ sa mem.length ad L va) (ri_XC G D tyc (va_A (ri_w ρ sa (ri_aty G) tyc ad mem) H.size) ρ sa mem.length ad L) (va_A (ri_w ρ sa (ri_aty G) tyc ad mem) H.size))
    (hseq : ri_seq (ri_after G M K pc lv rest) L = some r2) (hag : ri_ag n0 ad0 ad) (hn : n0 ≤ mem.length) (hl0 : lv_has ls (ri_mx M) (ri_lc ρ sa ad lv)) (hD : va_D A (ri_w ρ sa (ri_aty G) tyc ad mem)) (hS : va_S A s.heap H locs) (hlv : ∀ q ∈ lv, ri_ok mem.length q.2) (hst : ∀ t ∈ rest, ri_ok mem.length t)
    (hLT : ∀ x ∈ r2.1, x ∈ LT) (hc1 : cells + mc + r2.2.1 ≤ mcT) (hs1 : slots + ms + r2.2.2.1 ≤ msT) (hob : ∀ o ∈ r2.2.2.2, ri_obs ρ o) :
    W p l e R s m args below meth c H locs cells slots (vx_MQ below (ri_Qc G D tyc A ρ sa n0 ad0 LT) (ri_XC G D tyc A ρ sa n0 ad0 LT) args s mcT msT A) (F0 m pc ls st0) := by
  obtain ⟨⟨⟨hx, hb, hml, hown, hin⟩, hM, hcl, hlk, hts, hKK, hA, hstr⟩, hSt, hwm, hr, hlocks, hex, hl, rfl, hLC, hco, hcs, hhi⟩ := hC
  have hA1 := ri_A1 hD hS hA
  refine ri_use hrun (fun v st₀ t H1 Ls h0 ht hvm hL hQ => ?_) (fun q E ce st₀ t H1 Ls h0 ht hvm hL hQ hce hcv hcl9 => ?_)
  · obtain ⟨lf, hlf, tm, ad', e1, e2, e3, f1, f2, f3, f4, f5, f6, f7⟩ := hQ
    obtain ⟨rx, g1, g2⟩ := ri_seq_s L hseq lf hlf
    obtain ⟨k1, k2, k3⟩ := vx_keep (T' := t) h0 rfl hS (fun q _ h => hA1 q h) hA1 hL f7
    rw [ht] at f5 k3
    have e4 : v = tm.map (ri_cv ρ sa ad') := by injection e2
    have hK1 : K (pc + 3) lv (tm.toList ++ rest) lf.1 lf.2.1 = some rx := by
      unfold ri_after at g1
      rw [e1] at g1
      cases tm with
      | none => exact g1
      | some z => exact g1
    have hgo := hK _ _ _ _ _ _ hK1 ad' ls H1 (locs ++ Ls) (cells + mc) (slots + ms) (ri_ag_tr hag f1 hn) (Nat.le_trans hn f3) (by rw [ri_lc_ag hlv f1]; exact hl0) f5 (f6.weaken (fun _ _ _ h => hA1 _ h)) k3 f4 (fun q hq => ri_ok_mono (hlv q hq) f3) (fun z hz => by
      rcases List.mem_append.mp hz with hz | hz
      · cases tm with
        | none => cases hz
        | some w =>
          have := e3 w rfl
          simp at hz
          rw [hz]; exact this
      · exact ri_ok_mono (hst z hz) f3) f2 (fun x hx => hLT x (g2.1 x hx)) (Nat.le_trans (Nat.add_le_add_left g2.2.1 _) hc1) (Nat.le_trans (Nat.add_le_add_left g2.2.2.1 _) hs1) (fun o ho => hob o (g2.2.2.2 o ho))
    have e5 : v.toList ++ rest.map (ri_cv ρ sa ad) = (tm.toList ++ rest).map (ri_cv ρ sa ad') := by
      rw [e4, List.map_append, ri_map_ag hst f1]
      cases tm <;> rfl
    rw [e5]
    exact hgo
  · obtain ⟨lf, hlf, ad', e1, f1, f2, f3, f4, f5, f6, f7⟩ := hQ
    obtain ⟨rx, g1, g2⟩ := ri_seq_s L hseq lf hlf
    obtain ⟨k1, k2, k3⟩ := vx_keep (T' := t) h0 rfl hS (fun q _ h => hA1 q h) hA1 hL f7
    rw [ht] at f5 k3
    unfold ri_after at g1
    rw [e1] at g1
    dsimp only at g1
    have hts0 : ∀ w ∈ ALL, w.before args s = true := fun w hw => hts w hw
    split at g1
    · next hfn =>
      cases g1
      have hp9 := ri_find_n hlk hM hts0 hSt.2.2.2.2.2.1 _ hfn
      rw [← hex] at hp9
      refine vx_outP hown hlocks hp9 hce hcv hcl9 (fun t9 ht9 _ => ?_) k3.2.2 (Nat.le_trans (Nat.le_add_right _ _) hc1) (Nat.le_trans (Nat.le_add_right _ _) hs1)
      exact ⟨(lf.1, lf.2.1, .inr E), hLT _ (g2.1 _ List.mem_cons_self), ad', rfl, ri_ag_tr hag f1 hn, f2, Nat.le_trans hn f3, f4, by rw [ht9]; exact f5, f6.weaken (fun _ _ _ h => hA1 _ h), k3.F ht9⟩
    · next hp hfc =>
      obtain ⟨pre, x, suf, nm, e4, e5, e6, e7, e8, e9, e10⟩ := ri_find_c hlk hM hts0 hSt.2.2.2.2.2.1 hcs _ hfc
      rw [← hex] at e4
      refine vx_catch hown pre x suf e4 e5 e6 e7 e9 e10 hce hcv hcl9 ?_
      rw [e8]
      have hl1 : lv_has ls (ri_mx M) (ri_lc ρ sa ad' lv) := by rw [ri_lc_ag hlv f1]; exact hl0
      have go : ∀ (pc2 k : Nat) (ls' : Array Slot), K pc2 (ri_ers lv k) [] lf.1 lf.2.1 = some rx → lv_has ls' (ri_mx M) (ri_lc ρ sa ad' (ri_ers lv k)) → W p l e (ri_rm (d + 1) LC mcT msT) s m args below meth c H1 (locs ++ Ls) (cells + mc) (slots + ms) (vx_MQ below (ri_Qc G D tyc A ρ sa n0 ad0 LT) (ri_XC G D tyc A ρ sa n0 ad0 LT) args s mcT msT A) (F0 m pc2 ls' []) := fun pc2 k ls' hk hl' =>
        hK _ _ _ _ _ _ hk ad' ls' H1 (locs ++ Ls) (cells + mc) (slots + ms) (ri_ag_tr hag f1 hn) (Nat.le_trans hn f3) hl' f5 (f6.weaken (fun _ _ _ h => hA1 _ h)) k3 f4 (fun q hq => ri_ok_mono (hlv q (List.mem_filter.mp hq).1) f3) (fun z hz => by cases hz) f2 (fun x hx => hLT x (g2.1 x hx)) (Nat.le_trans (Nat.add_le_add_left g2.2.1 _) hc1) (Nat.le_trans (Nat.add_le_add_left g2.2.2.1 _) hs1) (fun o ho => hob o (g2.2.2.2 o ho))
      unfold ri_catch at g1
      split at g1
      · next k hi =>
        split at g1
        · next hk9 => exact lv_astore hx hb (hcode _ _ _ hi) hl1 hk9 rfl fun ls' hl' => go _ k ls' g1 (ri_ers_has hl')
        · cases g1
      · next k hi =>
        split at g1
        · next hk9 => exact lv_astore_n hx hb (hcode _ _ _ hi) rfl hl1 hk9 rfl fun ls' hl' => go _ k ls' g1 (ri_ers_has hl')
        · cases g1
      · cases g1
    · cases g1
theorem ri_recv_s {cls : String} {as : List Jvm.Term} (h : ri_recv G cls mem as = true) : ∃ (k : Nat) (r : List Jvm.Term) (ci : Nat) (fs : List Jvm.Term) (rr : vw_C), as = .index k :: r ∧ mem[k]? = some (.inl (ci, fs)) ∧ (ri_cls G)[ci]? = some rr ∧ rr.1 = cls := by
  unfold ri_recv at h
  split at h
  · next k r =>
    split at h
    · next ci fs hm =>
      split at h
      · next rr hc => exact ⟨k, r, ci, fs, rr, rfl, hm, hc, beq_iff_eq.mp h⟩
      · cases h
    · cases h
  · cases h
/-- a callee's start, from a caller's place -/
theorem ri_pre {ad : Nat → Nat} {H : Heap} {locs : List Loc} {as : List Jvm.Term} (hSt : ri_St ALL STR G D tyc sa A s) (hwm : ∀ w ∈ ALL, ri_warm w = true) (hA : ∀ q, s.heap.size ≤ q → A q) (hP : va_P D (ri_cls G) (ri_w ρ sa (ri_aty G) tyc ad mem) H) (hD : va_D A (ri_w ρ sa (ri_aty G) tyc ad mem)) (hS : va_S A s.heap H locs) (U : State) (hU : U.heap = H) (hW : s.WarmedH U.vm) :
    ri_Pc ALL STR G D tyc ρ sa ad H.size as mem (as.map (ri_cv ρ sa ad)).toArray U :=
  ⟨rfl, by rw [hU], by rw [hU]; exact hP, hD.weaken (fun _ _ _ _ => trivial), ri_St_go hwm hSt hW (fun q h1 h2 => by rw [hU]; exact hS.2.1 q h1 h2) (ri_A1 hD hS hA)⟩
/-- what is asked of a callee's tables -/
theorem ri_cb {M2 : ri_Mt} {n mc ms : Nat} (hts : ∀ w ∈ ALL, ∀ a : Array Value, w.before a s = true) (hLC : ∀ i ∈ ri_mts G, 19 + ri_mx i ≤ LC) (hco : ∀ M2 ∈ ri_mts G, ri_own M2 = (ri_nm M2).cls ∧ ri_hw M2 ∈ ALL ∧ goodWord (ri_hw M2) = true ∧ Jvm.Cond.initialized (ri_nm M2).cls ∈ ALL ∧ Bundle.fit (ri_nm M2).cls = true) (hM2 : M2 ∈ ri_mts G) (hpar : (parseMethodDescriptor (ri_nm M2).desc).map (fun d => d.parameters.length) = some n) :
    ((ri_rm d LC mc ms).cells = mc ∧ (ri_rm d LC mc ms).slots = ms ∧ (ri_rm d LC mc ms).frames + 1 ≤ (ri_rm (d + 1) LC mcT msT).frames ∧ 8 + (ri_mx M2 + 11) + (ri_rm d LC mc ms).locals ≤ (ri_rm (d + 1) LC mcT msT).locals ∧ (∀ w ∈ ([ri_hw M2] : List Jvm.Cond), ∀ (a' : Array Value) (U : State), s.WarmedH U.vm → w.before a' U = true) ∧ ri_hw M2 ∈ ([ri_hw M2] : List Jvm.Cond)) ∧
    (ri_hw M2).before args s = true ∧ (Jvm.Cond.initialized (ri_nm M2).cls).before args s = true ∧ ((ri_nm M2).cls ≠ "java/lang/invoke/MethodHandle" ∧ (ri_nm M2).cls ≠ "java/lang/invoke/VarHandle") ∧ (∀ sig, parseMethodDescriptor (ri_nm M2).desc = some sig → n = sig.parameters.length) := by
  obtain ⟨-, c1, c2, c3, c4⟩ := hco M2 hM2
  have h1 := hLC M2 hM2
  refine ⟨⟨rfl, rfl, ?_, ?_, fun w hw a' U hW => ?_, List.mem_cons_self⟩, hts _ c1 _, hts _ c3 _, ⟨(Bundle.fit_spec c4).2.1, (Bundle.fit_spec c4).2.2⟩, fun sig h => ?_⟩
  · show d + 1 + 1 ≤ d + 1 + 1
    omega
  · show 8 + (ri_mx M2 + 11) + (100 + d * LC) ≤ 100 + (d + 1) * LC
    have : (d + 1) * LC = d * LC + LC := Nat.succ_mul d LC
    omega
  · rw [List.mem_singleton] at hw
    subst hw
    exact word_at hW (good_of_word c2) (hts _ c1 args)
  · rw [h] at hpar
    exact (Option.some.inj hpar).symm
theorem ri_hw_nil {M2 : ri_Mt} (h : (ri_hh M2).isEmpty = true) : ri_hw M2 = .code (ri_nm M2) (ri_by M2) (ri_mx M2) (ri_rt M2) := by
  unfold ri_hw
  rw [List.isEmpty_iff.mp h]
theorem ri_hw_cons {M2 : ri_Mt} {h : Nat × Nat × Nat × Nat} {t : List (Nat × Nat × Nat × Nat)} (e : ri_hh M2 = h :: t) : ri_hw M2 = .codeWith (ri_nm M2) (ri_by M2) (ri_mx M2) (ri_rt M2) (h :: t) := by
  unfold ri_hw
  rw [e]
theorem ri_inv_W (sort : Nat) (hC : ri_Cx l ALL STR sa G M D tyc A p s m args meth c R LC d mcT msT) (hK : ∀ pc lv st cs mem rs, K pc lv st cs mem = some rs → ri_So p l e R s m args below meth c G M D tyc A ρ sa n0 ad0 LT mcT msT pc lv st cs mem rs)
    (hcall : ∀ mi as cs mem rs, call mi as cs mem = some rs → ri_Con l ALL STR G LC d mi as cs mem rs)
    (hd0 : sort = 0 → decode (ri_by M) pc = .ok (.invokevirtual idx, 3)) (hd1 : sort = 1 → decode (ri_by M) pc = .ok (.invokestatic idx, 3)) (hd2 : sort = 2 → decode (ri_by M) pc = .ok (.invokespecial idx, 3)) (h3 : sort < 3)
    (hcode : ∀ pc i len, (ri_co M)[pc]? = some (some (i, len)) → decode (ri_by M) pc = .ok (i, len)) (h : ri_inv G call M K sort pc idx lv st cs mem = some rs) : ri_So p l e R s m args below meth c G M D tyc A ρ sa n0 ad0 LT mcT msT pc lv st cs mem rs := by
  have hC0 := hC
  obtain ⟨⟨⟨hx, hb, hml, hown, hin⟩, hM, hcl, hlk, hts, hKK, hA, hstr⟩, hSt, hwm, hr, hlocks, hex, hl, rfl, hLC, hco, hcs, hhi⟩ := hC
  intro ad ls H locs cells slots hag hn hl0 hP hD hS hok hlv hst hsat hLT hc1 hs1 hob
  unfold ri_inv at h
  split at h
  · next kd mi n tx hcp =>
    have hlink := ri_cp_s hlk hM hcp
    split at h
    · next hkd =>
      split at h
      · next M2 hM2 =>
        split at h
        · next hk =>
          obtain ⟨hhh, hlen, hr4, hrecv⟩ := hk
          split at h
          · next L mc ms ob hcl2 =>
            obtain ⟨r2, hseq, x1, x2, x3, x4⟩ := ri_more_s h
            have hM2m : M2 ∈ ri_mts G := List.mem_of_getElem? hM2
            have hoks : ∀ t ∈ (st.take (ri_nn sort n)).reverse, ri_ok mem.length t := fun t ht => hst t (List.mem_of_mem_take (List.mem_reverse.mp ht))
            have hokr : ∀ t ∈ st.drop (ri_nn sort n), ri_ok mem.length t := fun t ht => hst t (List.mem_of_mem_drop ht)
            have hM9 := hcall _ _ _ _ _ hcl2 M2 hM2 D tyc ρ sa ad H.size hsat hok hoks (fun o ho => hob o (by rw [x4]; exact List.mem_append_left _ ho))
            have hsum := ri_sum4 (ρ := ρ) (sa := sa) (ad := ad) hr4
            rw [x2] at hc1
            rw [x3] at hs1
            have hf : cells + mc ≤ (ri_rm (d + 1) LC mcT msT).cells ∧ slots + ms ≤ (ri_rm (d + 1) LC mcT msT).slots := ⟨by show _ ≤ mcT; omega, by show _ ≤ msT; omega⟩
            have hpre := fun U hU hW => ri_pre (ρ := ρ) (as := (st.take (ri_nn sort n)).reverse) hSt hwm hA hP hD hS U hU hW
            have hbl := ri_Pc_blind (STR := STR) (G := G) (D := D) (tyc := tyc) (ρ := ρ) (sa := sa) (ad := ad) (sz := H.size) (args := (st.take (ri_nn sort n)).reverse) (mem := mem) hwm
            have hstk : st.map (ri_cv ρ sa ad) = ((st.take (ri_nn sort n)).reverse.map (ri_cv ρ sa ad)).reverse ++ (st.drop (ri_nn sort n)).map (ri_cv ρ sa ad) := by
              rw [← List.map_reverse, List.reverse_reverse, ← List.map_append, List.take_append_drop]
            have hlen9 : (st.take (ri_nn sort n)).reverse.length = (ri_nn sort n) := by
              rw [List.length_reverse, List.length_take]; omega
            generalize hAs : (st.take (ri_nn sort n)).reverse = as at hM9 hpre hbl hstk hlen9 hrecv
            refine ri_back_W (mc := mc) (ms := ms) (va := (as.map (ri_cv ρ sa ad)).toArray) hC0 hcode hK ?_ hseq hag hn hl0 hD hS hlv hokr (fun x hx => hLT x (by rw [x1]; exact hx)) (by omega) (by omega) (fun o ho => hob o (by rw [x4]; exact List.mem_append_right _ ho))
            have hcf : CallFix p m c (ri_by M) (ri_mx M) s args [] (ri_own M) := ⟨hx, hb, hml, hown, fun w hw => by cases hw⟩
            rcases Nat.lt_or_ge sort 1 with h0 | h0
            · have h0 : sort = 0 := by omega
              subst h0
              obtain ⟨k, r, ci, fs, rr, rfl, hmk, hck, hrr⟩ := ri_recv_s (hrecv.resolve_left (by decide))
              have hre := va_recv hKK hP hck (ri_w_get hmk)
              rw [hrr] at hre
              have hlr : (r.map (ri_cv ρ sa ad)).length = n := by
                rw [List.length_map]
                have : r.length + 1 = n + 1 := hlen9
                omega
              have hst2 : st.map (ri_cv ρ sa ad) = (r.map (ri_cv ρ sa ad)).reverse ++ .ref (ad k) :: (st.drop (n + 1)).map (ri_cv ρ sa ad) := by
                rw [hstk]
                show (Value.ref (ad k) :: r.map (ri_cv ρ sa ad)).reverse ++ _ = _
                rw [List.reverse_cons, List.append_assoc]
                rfl
              have hw9 := ri_hw_nil (hhh.resolve_left (fun z => by rcases hkd with h9 | h9 <;> omega))
              rw [hw9] at hM9
              rcases hkd with rfl | rfl
              · obtain ⟨M3, g1, g2, g3, g4, g5⟩ := hlink
                rw [hM2] at g1
                cases g1
                obtain ⟨⟨b1, b2, b3, b4, b5, b6⟩, b7, b8, b9, b10⟩ := ri_cb (args := args) (d := d) (mcT := mcT) (msT := msT) (mc := mc) (ms := ms) hSt.1 hLC hco hM2m g2
                rw [hw9] at b5 b6 b7
                exact vx_runV (As := r.map (ri_cv ρ sa ad)) (C := (ri_nm M2).cls) hcf hM9 ⟨⟨b1, b2, b3, b4, b5, b6, b7, b8, b9, b10, hSt.1 _ g3 _⟩, hSt.1 _ g4 _, hSt.1 _ g5 _⟩ ⟨hbl, hre, hpre⟩ rfl hlr hl0.1 hst2 (lv_room hsum) (hd0 rfl) hf
              · obtain ⟨M3, g1, g2, g3, g4, g5⟩ := hlink
                rw [hM2] at g1
                cases g1
                obtain ⟨b0, b7, b8, b9, b10⟩ := ri_cb (args := args) (d := d) (mcT := mcT) (msT := msT) (mc := mc) (ms := ms) hSt.1 hLC hco hM2m g2
                rw [hw9] at b0 b7
                exact vx_runVN (As := r.map (ri_cv ρ sa ad)) (C := (ri_nm M2).cls) hcf hM9 ⟨⟨b0, b7, b8, b9, b10, hSt.1 _ g3 _⟩, hSt.1 _ g4 _, hSt.1 _ g5 _⟩ ⟨hbl, hre, hpre⟩ rfl hlr hl0.1 hst2 (lv_room hsum) (hd0 rfl) hf
            · rcases Nat.lt_or_ge sort 2 with h1 | h1
              · have h0 : sort = 1 := by omega
                subst h0
                have hlr : (as.map (ri_cv ρ sa ad)).length = n := by
                  rw [List.length_map]; exact hlen9
                rcases hkd with rfl | rfl
                · obtain ⟨M3, g1, g2, g3, g4⟩ := hlink
                  rw [hM2] at g1
                  cases g1
                  obtain ⟨⟨b1, b2, b3, b4, b5, b6⟩, b7, b8, b9, b10⟩ := ri_cb (args := args) (d := d) (mcT := mcT) (msT := msT) (mc := mc) (ms := ms) hSt.1 hLC hco hM2m g2
                  cases hh9 : ri_hh M2 with
                  | nil =>
                    have hw9 : ri_hw M2 = _ := ri_hw_nil (by rw [hh9]; rfl)
                    rw [hw9] at b5 b6 b7 hM9
                    exact vx_runS hcf hM9 ⟨⟨b1, b2, b3, b4, b5, b6, b7, b8, b9, b10, hSt.1 _ g3 _⟩, hSt.1 _ g4 _⟩ ⟨hbl, hpre⟩ rfl hlr hl0.1 hstk (lv_room hsum) (hd1 rfl) hf
                  | cons h9 t9 =>
                    have hw9 : ri_hw M2 = _ := ri_hw_cons hh9
                    rw [hw9] at b5 b6 b7 hM9
                    exact vx_runSX hcf hM9 ⟨⟨b1, b2, b3, b4, b5, b6⟩, b7, b8, b9, b10, hSt.1 _ g3 _, hSt.1 _ g4 _⟩ ⟨hbl, hpre⟩ rfl hlr hl0.1 hstk (lv_room hsum) (hd1 rfl) hf
                · have hw9 := ri_hw_nil (hhh.resolve_left (by omega))
                  rw [hw9] at hM9
                  obtain ⟨M3, g1, g2, g3, g4⟩ := hlink
                  rw [hM2] at g1
                  cases g1
                  obtain ⟨b0, b7, b8, b9, b10⟩ := ri_cb (args := args) (d := d) (mcT := mcT) (msT := msT) (mc := mc) (ms := ms) hSt.1 hLC hco hM2m g2
                  rw [hw9] at b0 b7
                  exact vx_runSN hcf hM9 ⟨⟨b0, b7, b8, b9, b10, hSt.1 _ g3 _⟩, hSt.1 _ g4 _, trivial⟩ ⟨hbl, hpre⟩ rfl hlr hl0.1 hstk (lv_room hsum) (hd1 rfl) hf
              · have h0 : sort = 2 := by omega
                subst h0
                obtain ⟨k, r, ci, fs, rr, rfl, hmk, hck, hrr⟩ := ri_recv_s (hrecv.resolve_left (by decide))
                have hlr : (r.map (ri_cv ρ sa ad)).length = n := by
                  rw [List.length_map]
                  have : r.length + 1 = n + 1 := hlen9
                  omega
                have hst2 : st.map (ri_cv ρ sa ad) = (r.map (ri_cv ρ sa ad)).reverse ++ .ref (ad k) :: (st.drop (n + 1)).map (ri_cv ρ sa ad) := by
                  rw [hstk]
                  show (Value.ref (ad k) :: r.map (ri_cv ρ sa ad)).reverse ++ _ = _
                  rw [List.reverse_cons, List.append_assoc]
                  rfl
                have hw9 := ri_hw_nil (hhh.resolve_left (fun z => by rcases hkd with h9 | h9 <;> omega))
                rw [hw9] at hM9
                rcases hkd with rfl | rfl
                · obtain ⟨M3, g1, g2, g3, g4, g5, g6⟩ := hlink
                  rw [hM2] at g1
                  cases g1
                  obtain ⟨⟨b1, b2, b3, b4, b5, b6⟩, b7, b8, b9, b10⟩ := ri_cb (args := args) (d := d) (mcT := mcT) (msT := msT) (mc := mc) (ms := ms) hSt.1 hLC hco hM2m g2
                  rw [hw9] at b5 b6 b7
                  rw [g6] at b5 b6 b7 hM9
                  exact vx_runI (As := r.map (ri_cv ρ sa ad)) hcf hM9 ⟨⟨b1, b2, b3, b4, b5, b6, b7, b8, b9, b10, hSt.1 _ g3 _⟩, g5, hSt.1 _ g4 _⟩ ⟨hbl, hpre⟩ rfl hlr hl0.1 hst2 (lv_room hsum) (hd2 rfl) hf
                · obtain ⟨M3, g1, g2, g3, g4, g5, g6⟩ := hlink
                  rw [hM2] at g1
                  cases g1
                  obtain ⟨b0, b7, b8, b9, b10⟩ := ri_cb (args := args) (d := d) (mcT := mcT) (msT := msT) (mc := mc) (ms := ms) hSt.1 hLC hco hM2m g2
                  rw [hw9] at b0 b7
                  rw [g6] at b0 b7 hM9
                  exact vx_runIN (As := r.map (ri_cv ρ sa ad)) hcf hM9 ⟨⟨b0, b7, b8, b9, b10, hSt.1 _ g3 _⟩, g5, hSt.1 _ g4 _⟩ ⟨hbl, hpre⟩ rfl hlr hl0.1 hst2 (lv_room hsum) (hd2 rfl) hf
          · cases h
        · cases h
      · cases h
    · next hkd =>
      split at h
      · next hk7 =>
        subst hk7
        split at h
        · next k r =>
          split at h
          · next hs =>
            obtain ⟨rfl, hr4⟩ := hs
            obtain ⟨g1, g2, g3⟩ := hlink
            have hsum := ri_sum4 (ρ := ρ) (sa := sa) (ad := ad) hr4
            have hgo := hK _ _ _ _ _ _ h ad ls H locs cells slots hag hn hl0 hP hD hS hok hlv (fun t ht => hst t (List.mem_cons_of_mem _ ht)) hsat hLT hc1 hs1 hob
            refine W.objInit hx hb hown (hts _ g1) (hts _ g2) (hts _ g3) rfl (hl0.1.trans hml.symm) rfl (hd2 rfl) ?_ ?_ ?_
            · show 1 ≤ d + 1 + 1
              omega
            · have := lv_room (m := m) (pc := pc) (ls := ls) (rest := (r.map (ri_cv ρ sa ad))) hsum
              show 2 * (F0 m pc ls _).monitorRoom + _ + 12 ≤ 100 + (d + 1) * LC
              have e0 : (F0 m pc ls ((.index k :: r : List Jvm.Term).map (ri_cv ρ sa ad))).monitorRoom = 0 := rfl
              rw [e0]
              omega
            · exact W.eq (g2 := F0 m (pc + 3) ls (r.map (ri_cv ρ sa ad))) rfl hgo
          · cases h
        · cases h
      · split at h
        · next hk10 =>
          subst hk10
          split at h
          · next y x r =>
            split at h
            · next hs =>
              obtain ⟨rfl, hx0, hy0, hr4⟩ := hs
              obtain ⟨g1, g2, g3, g4⟩ := hlink
              have hsum := ri_sum4 (ρ := ρ) (sa := sa) (ad := ad) hr4
              rw [List.map_cons, List.map_cons, ri_ivI hx0, ri_ivI hy0]
              refine va_mmax hx hb (hml.trans hl0.1.symm) hown (hts _ g1) (hts _ g2) (hts _ g3) (hts _ g4) (by show 1 ≤ d + 1 + 1; omega) (by show _ ≤ 100 + (d + 1) * LC; omega) (by show cells ≤ mcT; omega) (by show slots ≤ msT; omega) (hd1 rfl) ?_
              rcases ri_br_s hsat h with ⟨h1, cs', q1, h2, h3', h4⟩ | ⟨h1, cs', q1, h2, h3', h4⟩
              · rw [if_pos ((ri_sat_lt.mp h1).mp rfl)]
                have hgo := ri_So_le (hK _ _ _ _ _ _ h2) h4 ad ls H locs cells slots hag hn hl0 hP hD hS hok hlv (fun t ht => hst t (by
                  rcases List.mem_cons.mp ht with rfl | ht
                  · exact List.mem_cons_self
                  · exact List.mem_cons_of_mem _ (List.mem_cons_of_mem _ ht))) h3' hLT hc1 hs1 hob
                rw [List.map_cons, ri_ivI hy0] at hgo
                exact hgo
              · rw [if_neg (fun z => h1 (ri_sat_lt.mpr ⟨fun _ => z, fun _ => rfl⟩))]
                have hgo := ri_So_le (hK _ _ _ _ _ _ h2) h4 ad ls H locs cells slots hag hn hl0 hP hD hS hok hlv (fun t ht => hst t (List.mem_cons_of_mem _ ht)) h3' hLT hc1 hs1 hob
                rw [List.map_cons, ri_ivI hx0] at hgo
                exact hgo
            · cases h
          · cases h
        · split at h
          · next hk11 =>
            subst hk11
            split at h
            · next y x r =>
              split at h
              · next hs =>
                obtain ⟨rfl, hx0, hy0, hr4⟩ := hs
                obtain ⟨g1, g2, g3, g4⟩ := hlink
                have hsum := ri_sum4 (ρ := ρ) (sa := sa) (ad := ad) hr4
                rw [List.map_cons, List.map_cons, ri_ivI hx0, ri_ivI hy0]
                refine va_mmin hx hb (hml.trans hl0.1.symm) hown (hts _ g1) (hts _ g2) (hts _ g3) (hts _ g4) (by show 1 ≤ d + 1 + 1; omega) (by show _ ≤ 100 + (d + 1) * LC; omega) (by show cells ≤ mcT; omega) (by show slots ≤ msT; omega) (hd1 rfl) ?_
                rcases ri_br_s hsat h with ⟨h1, cs', q1, h2, h3', h4⟩ | ⟨h1, cs', q1, h2, h3', h4⟩
                · rw [if_pos ((ri_sat_lt.mp h1).mp rfl)]
                  have hgo := ri_So_le (hK _ _ _ _ _ _ h2) h4 ad ls H locs cells slots hag hn hl0 hP hD hS hok hlv (fun t ht => hst t (by
                    rcases List.mem_cons.mp ht with rfl | ht
                    · exact List.mem_cons_self
                    · exact List.mem_cons_of_mem _ (List.mem_cons_of_mem _ ht))) h3' hLT hc1 hs1 hob
                  rw [List.map_cons, ri_ivI hy0] at hgo
                  exact hgo
                · rw [if_neg (fun z => h1 (ri_sat_lt.mpr ⟨fun _ => z, fun _ => rfl⟩))]
                  have hgo := ri_So_le (hK _ _ _ _ _ _ h2) h4 ad ls H locs cells slots hag hn hl0 hP hD hS hok hlv (fun t ht => hst t (List.mem_cons_of_mem _ ht)) h3' hLT hc1 hs1 hob
                  rw [List.map_cons, ri_ivI hx0] at hgo
                  exact hgo
              · cases h
            · cases h
          · split at h
            · next hk16 =>
              have hS0 := hSt.2.2.2.2.2.2
              have hcf9 : CallFix p m c (ri_by M) (ri_mx M) s args [] (ri_own M) := ⟨hx, hb, hml, hown, fun w hw => by cases hw⟩
              unfold ri_strm at h
              split at h
              · next c9 i9 r9 =>
                split at h
                · next hc9 =>
                  obtain ⟨rfl, rfl, rfl, hr4, hhi2⟩ := hc9
                  split at h
                  · next a5 b5 tx5 hcp5 =>
                    have hq := ri_cp_s hlk hM hcp5
                    obtain ⟨g1, g2⟩ := hlink
                    have hhi5 := hhi hhi2
                    have hsum := ri_sum4 (ρ := ρ) (sa := sa) (ad := ad) hr4
                    obtain ⟨cell, a1, a2, a3, -⟩ := va_O.kept (hS0.1 (ri_own M, i9, tx5) hq).2.1 hS.2.1
                    refine sx_callV (k := 2) (n := 22) (As := []) (C := "java/lang/String") (tv := []) (rest := r9.map (ri_cv ρ sa ad)) (fun w hw a => hSt.1 w (g2 w hw) a) hS0 hA (fun z hz => by cases hz) hS hcf9 (sx_c7 (q := (ri_own M, i9, tx5)) hq) (sx_in 6 rfl) (sx_in 7 rfl) (sx_in 16 rfl) (sx_in 17 rfl) (hSt.1 _ g1 _) ⟨by decide, by decide⟩ (by decide +kernel) ⟨cell, a1, a2, a3⟩ ⟨by show 3 ≤ d + 1 + 1; omega, by show 8 + (1 + 11) + 22 ≤ 100 + (d + 1) * LC; omega⟩ hl0.1 hsum (hd0 rfl) ⟨by show _ ≤ mcT; omega, by show _ ≤ msT; omega⟩ (fun H1 L e1 e2 e3 => ?_)
                    have hgo := hK _ _ _ _ _ _ h ad ls H1 (locs ++ L) cells slots hag hn hl0 (va_P.kept hP (fun k q hk => e3 q.1 (vx_lt hP hk))) hD e1 hok hlv (fun t ht => by
                      rcases List.mem_cons.mp ht with rfl | ht
                      · rw [ri_ci_eq]; trivial
                      · exact hst t (List.mem_cons_of_mem _ ht)) hsat hLT hc1 hs1 hob
                    rw [List.map_cons, ri_ci_eq] at hgo
                    exact hgo
                  · cases h
                · cases h
              · next v9 c9 i9 r9 =>
                split at h
                · next hc9 =>
                  obtain ⟨rfl, rfl, rfl, hr4, hv0, hhi2⟩ := hc9
                  split at h
                  · next a5 b5 tx5 hcp5 =>
                    split at h
                    · next ch9 hch9 =>
                      have hq := ri_cp_s hlk hM hcp5
                      obtain ⟨g1, g2⟩ := hlink
                      have hhi5 := hhi hhi2
                      have hsum := ri_sum4 (ρ := ρ) (sa := sa) (ad := ad) hr4
                      obtain ⟨cell, a1, a2, a3, -⟩ := va_O.kept (hS0.1 (ri_own M, i9, tx5) hq).2.1 hS.2.1
                      refine sx_callV (k := 4) (n := 64) (As := [.int v9]) (C := "java/lang/String") (tv := []) (rest := r9.map (ri_cv ρ sa ad)) (fun w hw a => hSt.1 w (g2 w hw) a) hS0 hA (fun z hz => by cases hz) hS hcf9 (sx_c6 (q := (ri_own M, i9, tx5)) hq hv0 hch9) (sx_in 5 rfl) (sx_in 7 rfl) (sx_in 14 rfl) (sx_in 15 rfl) (hSt.1 _ g1 _) ⟨by decide, by decide⟩ sn_6 ⟨cell, a1, a2, a3⟩ ⟨by show 5 ≤ d + 1 + 1; omega, by show 8 + (2 + 11) + 64 ≤ 100 + (d + 1) * LC; omega⟩ hl0.1 hsum (hd0 rfl) ⟨by show _ ≤ mcT; omega, by show _ ≤ msT; omega⟩ (fun H1 L e1 e2 e3 => ?_)
                      have hgo := hK _ _ _ _ _ _ h ad ls H1 (locs ++ L) cells slots hag hn hl0 (va_P.kept hP (fun k q hk => e3 q.1 (vx_lt hP hk))) hD e1 hok hlv (fun t ht => by
                        rcases List.mem_cons.mp ht with rfl | ht
                        · rw [ri_ci_eq]; trivial
                        · exact hst t (List.mem_cons_of_mem _ (List.mem_cons_of_mem _ ht))) hsat hLT hc1 hs1 hob
                      rw [List.map_cons, ri_ci_eq] at hgo
                      exact hgo
                    · cases h
                  · cases h
                · cases h
              · cases h
            · cases h
  · cases h
end RIY1
end RIY
