/-! RI: the instructions that touch the heap are sound -/
section RIW
def ri_tys (aty : List FieldType) (tyc : Nat → ClassId) : List (ClassId × FieldType) := aty.mapIdx (fun j ty => (tyc j, ty))
theorem ri_tys_get {aty : List FieldType} {tyc : Nat → ClassId} {j : Nat} {ty : FieldType} (h : aty[j]? = some ty) : (ri_tys aty tyc)[j]? = some (tyc j, ty) := by
  unfold ri_tys
  rw [List.getElem?_mapIdx, h]
  rfl
def ri_obs (ρ : Nat → Int32) (o : ri_Ob) : Prop := (∀ q ∈ o.1, ri_sat ρ q) → vp_in (ri_iv ρ o.2.1) o.2.2
/-- a constructor that hands its text on by its link 13 -/
def ri_rx : ByteArray := ⟨#[0x2a, 0x2b, 0xb7, 0x00, 0x0d, 0xb1]⟩
theorem ri_rx0 : decode ri_rx 0 = .ok (.aload_n 0, 1) := by decide +kernel
theorem ri_rx1 : decode ri_rx 1 = .ok (.aload_n 1, 1) := by decide +kernel
theorem ri_rx2 : decode ri_rx 2 = .ok (.invokespecial 13, 3) := by decide +kernel
theorem ri_rx5 : decode ri_rx 5 = .ok (.return_, 1) := by decide +kernel
def ri_link (ALL : List Jvm.Cond) (STR : List (String × Nat × String)) (G : ri_Tb) (own : String) (idx : Nat) (q : ri_Lk) : Prop := match q with
  | (0, a, b, _) => ∃ (C : String) (T : u_T) (N : Nat), (ri_cls G)[a]? = some (C, T, N) ∧ b < N ∧ Jvm.Cond.fieldLink own idx (T b).1 (T b).2.1 (T b).2.2.1 ∈ ALL
  | (1, a, b, tx) => ∃ (C : String) (T : u_T) (N : Nat), (ri_cls G)[a]? = some (C, T, N) ∧ b < N ∧ Jvm.Cond.fieldLinkNest own idx (T b).1 (T b).2.1 (T b).2.2.1 tx ∈ ALL
  | (4, a, _, _) => ∃ (C : String) (T : u_T) (N : Nat), (ri_cls G)[a]? = some (C, T, N) ∧ Jvm.Cond.classLink own idx C ∈ ALL ∧ Jvm.Cond.instantiable C N ∈ ALL ∧ Jvm.Cond.initialized C ∈ ALL
  | (6, a, _, _) => ∃ C, (ri_aty G)[a]? = some (.object C) ∧ Jvm.Cond.classLink own (idx - 100000) C ∈ ALL ∧ Jvm.Cond.arrayOver (.object C) ∈ ALL
  | (8, a, b, _) => Jvm.Cond.constant own idx (Int32.ofNat a - Int32.ofNat b) ∈ ALL
  | (5, _, _, E) => Jvm.Cond.classLink own idx E ∈ ALL ∧ Jvm.Cond.initialized E ∈ ALL ∧ Bundle.fit E = true
  | (9, _, _, tx) => (own, idx, tx) ∈ STR
  | (14, a, b, _) => Jvm.Cond.constantLong own idx (Int64.ofNat a - Int64.ofNat b) ∈ ALL
  | (13, _, _, E) => ∃ names : List String, names.length ≤ 2 ∧ (∀ n ∈ names, Bundle.fit n = true) ∧ ∀ w ∈ vx_atS own idx E names, w ∈ ALL ∧ vx_ot w = true
  | (15, _, _, E) => ∀ w ∈ ri_atX own idx E 13 ri_rx "java/lang/RuntimeException" ["java/lang/Exception"], w ∈ ALL ∧ vx_ot w = true
  | (20, mi, n, _) => ∃ M2, (ri_mts G)[mi]? = some M2 ∧ (parseMethodDescriptor (ri_nm M2).desc).map (fun d => d.parameters.length) = some n ∧ Jvm.Cond.methodLink own idx (ri_nm M2) ∈ ALL ∧ Jvm.Cond.instanceMethod (ri_nm M2) ∈ ALL ∧ Jvm.Cond.selects (ri_nm M2).cls (ri_nm M2) (ri_nm M2) ∈ ALL
  | (21, mi, n, _) => ∃ M2, (ri_mts G)[mi]? = some M2 ∧ (parseMethodDescriptor (ri_nm M2).desc).map (fun d => d.parameters.length) = some n ∧ Jvm.Cond.methodLink own idx (ri_nm M2) ∈ ALL ∧ Jvm.Cond.static (ri_nm M2) ∈ ALL
  | (22, mi, n, _) => ∃ M2, (ri_mts G)[mi]? = some M2 ∧ (parseMethodDescriptor (ri_nm M2).desc).map (fun d => d.parameters.length) = some n ∧ Jvm.Cond.methodLink own idx (ri_nm M2) ∈ ALL ∧ Jvm.Cond.instanceMethod (ri_nm M2) ∈ ALL ∧ (ri_nm M2).name = "<init>" ∧ ri_rt M2 = none
  | (30, mi, n, tx) => ∃ M2, (ri_mts G)[mi]? = some M2 ∧ (parseMethodDescriptor (ri_nm M2).desc).map (fun d => d.parameters.length) = some n ∧ Jvm.Cond.methodLinkNest own idx (ri_nm M2) tx ∈ ALL ∧ Jvm.Cond.instanceMethod (ri_nm M2) ∈ ALL ∧ Jvm.Cond.selects (ri_nm M2).cls (ri_nm M2) (ri_nm M2) ∈ ALL
  | (31, mi, n, tx) => ∃ M2, (ri_mts G)[mi]? = some M2 ∧ (parseMethodDescriptor (ri_nm M2).desc).map (fun d => d.parameters.length) = some n ∧ Jvm.Cond.methodLinkNest own idx (ri_nm M2) tx ∈ ALL ∧ Jvm.Cond.static (ri_nm M2) ∈ ALL
  | (32, mi, n, tx) => ∃ M2, (ri_mts G)[mi]? = some M2 ∧ (parseMethodDescriptor (ri_nm M2).desc).map (fun d => d.parameters.length) = some n ∧ Jvm.Cond.methodLinkNest own idx (ri_nm M2) tx ∈ ALL ∧ Jvm.Cond.instanceMethod (ri_nm M2) ∈ ALL ∧ (ri_nm M2).name = "<init>" ∧ ri_rt M2 = none
  | (7, _, _, _) => Jvm.Cond.methodLink own idx objectInit ∈ ALL ∧ Jvm.Cond.instanceMethod objectInit ∈ ALL ∧ Jvm.Cond.code objectInit ⟨#[0xb1]⟩ 1 none ∈ ALL
  | (10, _, _, _) => Jvm.Cond.methodLink own idx Lib.Math.max.name ∈ ALL ∧ Jvm.Cond.static Lib.Math.max.name ∈ ALL ∧ Jvm.Cond.initialized "java/lang/Math" ∈ ALL ∧ Jvm.Cond.code Lib.Math.max.name Lib.Math.max.code 2 (some .int) ∈ ALL
  | (11, _, _, _) => Jvm.Cond.methodLink own idx Lib.Math.min.name ∈ ALL ∧ Jvm.Cond.static Lib.Math.min.name ∈ ALL ∧ Jvm.Cond.initialized "java/lang/Math" ∈ ALL ∧ Jvm.Cond.code Lib.Math.min.name Lib.Math.min.code 2 (some .int) ∈ ALL
  | (12, _, _, _) => Jvm.Cond.methodLink own idx arraycopyName ∈ ALL ∧ Jvm.Cond.native arraycopyName ∈ ALL ∧ Jvm.Cond.static arraycopyName ∈ ALL ∧ Jvm.Cond.initialized "java/lang/System" ∈ ALL
  | (16, _, _, _) => Jvm.Cond.methodLink own idx sx_y7 ∈ ALL ∧ ∀ w ∈ sx_W, w ∈ ALL
  | (17, _, _, _) => Jvm.Cond.methodLink own idx sx_y6 ∈ ALL ∧ ∀ w ∈ sx_W, w ∈ ALL
  | _ => True
def ri_clOK (ALL : List Jvm.Cond) (G : ri_Tb) : Prop := ∀ (ci : Nat) (C : String) (T : u_T) (N : Nat), (ri_cls G)[ci]? = some (C, T, N) → ∃ tys : List FieldType, (ri_fts G)[ci]? = some tys ∧ tys.length = N ∧ (∀ k, k < N → parseFieldDescriptor (T k).2.2.1 = tys[k]?) ∧ (∀ a, a < N → ∀ b, b < N → a ≠ b → (T a).2.1 ≠ (T b).2.1) ∧ ∀ w ∈ u_ws C T N, w ∈ ALL
def ri_lkOK (ALL : List Jvm.Cond) (STR : List (String × Nat × String)) (G : ri_Tb) : Prop := ∀ M ∈ ri_mts G, ∀ q ∈ (ri_cps G).getD (ri_pn M) [], ri_link ALL STR G (ri_own M) q.1 q.2
/-- the links of one method hold -/
def ri_lkM (ALL : List Jvm.Cond) (STR : List (String × Nat × String)) (G : ri_Tb) (M : ri_Mt) : Prop := ∀ q ∈ (ri_cps G).getD (ri_pn M) [], ri_link ALL STR G (ri_own M) q.1 q.2
theorem ri_cp_s {ALL : List Jvm.Cond} {STR : List (String × Nat × String)} {G : ri_Tb} {M : ri_Mt} {idx : Nat} {q : ri_Lk} (_ : ri_lkOK ALL STR G) (hM : ri_lkM ALL STR G M) (h : ri_cp G M idx = some q) : ri_link ALL STR G (ri_own M) idx q := by
  unfold ri_cp at h
  obtain ⟨z, hz, rfl⟩ := Option.map_eq_some_iff.mp h
  have h1 := hM z (List.mem_of_find?_eq_some hz)
  have h2 : z.1 = idx := by simpa using List.find?_some hz
  rw [← h2]
  exact h1
/-- what holds of a method that is walked -/
def ri_Ctx (ALL : List Jvm.Cond) (STR : List (String × Nat × String)) (sa : String → Nat → Nat) (G : ri_Tb) (M : ri_Mt) (D : va_G) (tyc : Nat → ClassId) (A : Nat → Prop) (p : Program) (s : State) (m : MethodId) (args : Array Value) (meth : Method) (c : Code) : Prop :=
  (p.tables.exec = Jvm.exec ∧ c.code = ri_by M ∧ c.maxLocals = ri_mx M ∧ s.vm.findClass (ri_own M) = some m.cls ∧ ((ri_nm M).name = "<init>" → meth.name = "<init>")) ∧ ri_lkM ALL STR G M ∧ ri_clOK ALL G ∧ ri_lkOK ALL STR G ∧ (∀ w ∈ ALL, w.before args s = true) ∧ va_K D (ri_cls G) (ri_tys (ri_aty G) tyc) s ∧ (∀ q, s.heap.size ≤ q → A q) ∧ (∀ q ∈ STR, vk_R q.1 q.2.1 q.2.2 (sa q.1 q.2.1) s)
section RIW1
variable {p : Program} {l : Launch} {e : Env} {R : Room} {s : State} {m : MethodId} {args : Array Value} {below : List Frame} {meth : Method} {c : Code} {H : Heap} {locs : List Loc} {cells slots : Nat} {Q : State → Prop}
variable {ALL : List Jvm.Cond} {STR : List (String × Nat × String)} {G : ri_Tb} {M : ri_Mt} {D : va_G} {tyc : Nat → ClassId} {A : Nat → Prop}
variable {ρ : Nat → Int32} {sa : String → Nat → Nat} {ad : Nat → Nat} {st : List Jvm.Term} {mem : ri_Me} {pc idx : Nat} {ls : Array Slot} {cs : List ri_Cd} {x : ri_H1}
/-- where the walk goes on -/
def ri_KK (p : Program) (l : Launch) (e : Env) (R : Room) (s : State) (m : MethodId) (args : Array Value) (below : List Frame) (meth : Method) (c : Code) (cells slots : Nat) (Q : State → Prop) (G : ri_Tb) (D : va_G) (tyc : Nat → ClassId) (A : Nat → Prop) (ρ : Nat → Int32) (sa : String → Nat → Nat) (ad : Nat → Nat) (mem : ri_Me) (ls : Array Slot) (pc : Nat) (x : ri_H1) : Prop :=
  ∀ (ad' : Nat → Nat) (H' : Heap) (locs' : List Loc), ri_ag mem.length ad ad' → va_P D (ri_cls G) (ri_w ρ sa (ri_aty G) tyc ad' x.2.2.1) H' → va_D A (ri_w ρ sa (ri_aty G) tyc ad' x.2.2.1) → va_S A s.heap H' locs' → ri_okM x.2.2.1.length x.2.2.1 → mem.length ≤ x.2.2.1.length → (∀ t ∈ x.2.1, ri_ok x.2.2.1.length t) →
    W p l e R s m args below meth c H' locs' (cells + x.2.2.2.1) (slots + x.2.2.2.2.1) Q (F0 m (pc + x.1) ls (x.2.1.map (ri_cv ρ sa ad')))
theorem ri_getf_W (hC : ri_Ctx ALL STR sa G M D tyc A p s m args meth c) (h : ri_getf G M idx st mem = some x) (hd : decode (ri_by M) pc = .ok (.getfield idx, x.1)) (hP : va_P D (ri_cls G) (ri_w ρ sa (ri_aty G) tyc ad mem) H) (hD : va_D A (ri_w ρ sa (ri_aty G) tyc ad mem)) (hS : va_S A s.heap H locs) (hok : ri_okM mem.length mem) (hst : ∀ t ∈ st, ri_ok mem.length t)
    (kk : ri_KK p l e R s m args below meth c cells slots Q G D tyc A ρ sa ad mem ls pc x) : W p l e R s m args below meth c H locs cells slots Q (F0 m pc ls (st.map (ri_cv ρ sa ad))) := by
  obtain ⟨⟨hx, hb, hml, hown, hin⟩, hM, hcl, hlk, hts, hK, hA, hstr⟩ := hC
  unfold ri_getf at h
  split at h
  · next kd ci j tx k r hcp =>
    split at h
    · next ci2 fs hm =>
      split at h
      · next t ht =>
        split at h
        · next hk =>
          cases h
          obtain ⟨hk1, rfl⟩ := hk
          have hlink := ri_cp_s hlk hM hcp
          have k1 := kk ad H locs ri_ag_rf hP hD hS hok (Nat.le_refl _) (fun z hz => by
            rcases List.mem_cons.mp hz with rfl | hz
            · exact hok _ (List.mem_of_getElem? hm) _ (List.mem_of_getElem? ht)
            · exact hst z (List.mem_cons_of_mem _ hz))
          have hv : (fs.map (ri_cv ρ sa ad))[j]? = some (ri_cv ρ sa ad t) := by rw [List.getElem?_map, ht]; rfl
          match kd, hk1, hlink with
          | 0, _, hlink =>
            obtain ⟨C, T, N, h1, h2, h3⟩ := hlink
            obtain ⟨tys, -, -, -, -, hin2⟩ := hcl _ _ _ _ h1
            exact va_get (Ts := ALL) hx hb hts hin2 hown hK hP k (ri_w_get hm) h1 j h2 (hts _ h3) (fun _ h9 => h9) hv hd k1
          | 1, _, hlink =>
            obtain ⟨C, T, N, h1, h2, h3⟩ := hlink
            obtain ⟨tys, -, -, -, -, hin2⟩ := hcl _ _ _ _ h1
            exact va_getN (Ts := ALL) hx hb hts hin2 hown hK hP k (ri_w_get hm) h1 j h2 (hts _ h3) (fun _ h9 => h9) hv hd k1
        · cases h
      · cases h
    · cases h
  · cases h
theorem ri_putf_W (hC : ri_Ctx ALL STR sa G M D tyc A p s m args meth c) (h : ri_putf G M idx st mem = some x) (hd : decode (ri_by M) pc = .ok (.putfield idx, x.1)) (hP : va_P D (ri_cls G) (ri_w ρ sa (ri_aty G) tyc ad mem) H) (hD : va_D A (ri_w ρ sa (ri_aty G) tyc ad mem)) (hS : va_S A s.heap H locs) (hok : ri_okM mem.length mem) (hst : ∀ t ∈ st, ri_ok mem.length t)
    (kk : ri_KK p l e R s m args below meth c cells slots Q G D tyc A ρ sa ad mem ls pc x) : W p l e R s m args below meth c H locs cells slots Q (F0 m pc ls (st.map (ri_cv ρ sa ad))) := by
  obtain ⟨⟨hx, hb, hml, hown, hin⟩, hM, hcl, hlk, hts, hK, hA, hstr⟩ := hC
  unfold ri_putf at h
  split at h
  · next kd ci j tx t k r hcp =>
    split at h
    · next ci2 fs C T N ty hm hc1 hty =>
      split at h
      · next hk =>
        cases h
        obtain ⟨hk1, rfl, hl, hfit, hfin⟩ := hk
        have hlink := ri_cp_s hlk hM hcp
        obtain ⟨hn, hf⟩ := ri_fit_s (ρ := ρ) (sa := sa) (ad := ad) hfit
        have ht : ri_ok mem.length t := hst t List.mem_cons_self
        obtain ⟨tys, q1, q2, q3, q4, q5⟩ := hcl _ _ _ _ hc1
        have kA : ∀ (H1 : Heap) (locs1 : List Loc), va_P D (ri_cls G) ((ri_w ρ sa (ri_aty G) tyc ad mem).set k (ad k, .inr (ci2, (fs.map (ri_cv ρ sa ad)).set j (ri_cv ρ sa ad t)))) H1 → va_D A ((ri_w ρ sa (ri_aty G) tyc ad mem).set k (ad k, .inr (ci2, (fs.map (ri_cv ρ sa ad)).set j (ri_cv ρ sa ad t)))) → va_S A s.heap H1 locs1 → W p l e R s m args below meth c H1 locs1 cells slots Q (F0 m (pc + 3) ls (r.map (ri_cv ρ sa ad))) := by
          intro H1 locs1 hP1 hD1 hS1
          rw [ri_map_set] at hP1 hD1
          have e9 := ri_w_set (ρ := ρ) (sa := sa) (aty := ri_aty G) (tyc := tyc) (ad := ad) (mem := mem) (k := k) (e := .inl (ci2, fs.set j t))
          simp only [ri_ce] at e9
          rw [e9] at hP1 hD1
          refine kk ad H1 locs1 ri_ag_rf hP1 hD1 hS1 ?_ ?_ ?_
          · show ri_okM (mem.set k _).length _
            rw [List.length_set]
            exact ri_okM_set hok (ri_ok_set (hok _ (List.mem_of_getElem? hm)) ht)
          · show mem.length ≤ (mem.set k _).length
            rw [List.length_set]; exact Nat.le_refl _
          · intro z hz
            show ri_ok (mem.set k _).length z
            rw [List.length_set]
            exact hst z (List.mem_cons_of_mem _ (List.mem_cons_of_mem _ hz))
        have hlm : j < (fs.map (ri_cv ρ sa ad)).length := by rw [List.length_map]; exact hl
        have hdt : (ri_fts G).getD ci2 [] = tys := by rw [List.getD_eq_getElem?_getD, q1]; rfl
        rw [hdt] at hty
        have hty0 : ∀ k, k < N → parseFieldDescriptor (T k).2.2.1 = some (tys.getD k .int) := fun k hk => by
          rw [q3 k hk, List.getD_eq_getElem?_getD]
          rw [← q2] at hk
          rw [List.getElem?_eq_getElem hk]; rfl
        match kd, hk1, hlink, hfin with
        | 0, _, hlink, hfin =>
          obtain ⟨C2, T2, N2, h1, h2, h3⟩ := hlink
          rw [hc1] at h1
          cases h1
          have hpd : parseFieldDescriptor (T j).2.2.1 = some ty := by rw [q3 j h2]; exact hty
          rcases hfin with hfin | ⟨-, hi, hde⟩
          · exact va_put (Ts := ALL) hx hb hts q5 _ hty0 q4 hown hK hP hD hS k (ri_w_get hm) hc1 j h2 (hts _ h3) (fun _ h9 => h9) hfin hpd hn hf hlm hd kA
          · by_cases hfin : (T j).2.2.2 = true
            · exact va_putF (Ts := ALL) hx hb hts q5 _ hty0 q4 hown hK hP hD hS k (ri_w_get hm) hc1 j h2 (hts _ h3) (fun _ h9 => h9) hfin (hin hi) hde hpd hn hf hlm hd kA
            · exact va_put (Ts := ALL) hx hb hts q5 _ hty0 q4 hown hK hP hD hS k (ri_w_get hm) hc1 j h2 (hts _ h3) (fun _ h9 => h9) (by simpa using hfin) hpd hn hf hlm hd kA
        | 1, _, hlink, hfin =>
          obtain ⟨C2, T2, N2, h1, h2, h3⟩ := hlink
          rw [hc1] at h1
          cases h1
          have hpd : parseFieldDescriptor (T j).2.2.1 = some ty := by rw [q3 j h2]; exact hty
          rcases hfin with hfin | ⟨h0, -⟩
          · exact va_putN (Ts := ALL) hx hb hts q5 _ hty0 q4 hown hK hP hD hS k (ri_w_get hm) hc1 j h2 (hts _ h3) (fun _ h9 => h9) hfin hpd hn hf hlm hd kA
          · cases h0
      · cases h
    · cases h
  · cases h
theorem ri_ce_int {ty n : Nat} {d : Jvm.Term} {ov : List (Nat × Jvm.Term)} (h : (ri_aty G)[ty]? = some .int) : ri_ce ρ sa (ri_aty G) tyc ad (.inr (ty, n, d, ov)) = .inl (tyc ty, n, .inl (fun j => ri_gI (ri_cv ρ sa ad (ri_look d ov j)))) := by
  simp only [ri_ce]
  rw [h]
  rfl
theorem ri_ce_ref {ty n : Nat} {C : String} {d : Jvm.Term} {ov : List (Nat × Jvm.Term)} (h : (ri_aty G)[ty]? = some (.object C)) : ri_ce ρ sa (ri_aty G) tyc ad (.inr (ty, n, d, ov)) = .inl (tyc ty, n, .inr (.inr (.inr (.inr (fun j => ri_gR (ri_cv ρ sa ad (ri_look d ov j))))))) := by
  simp only [ri_ce]
  rw [h]
  rfl
theorem ri_all_cons0 {n : Nat} {t : Jvm.Term} {st : List Jvm.Term} (h : ri_ok n t) (hs : ∀ z ∈ st, ri_ok n z) : ∀ z ∈ t :: st, ri_ok n z := fun z hz => by
  rcases List.mem_cons.mp hz with rfl | hz
  · exact h
  · exact hs z hz
/-- an index in range, by its bounds -/
theorem ri_in_s {i : Jvm.Term} {n : Nat} (hsat : ∀ q ∈ cs, ri_sat ρ q) (hk : ri_k i = 0) (h1 : 0 ≤ (ri_bd cs i).1) (h2 : (ri_bd cs i).2 < (n : Int)) : vp_in (ri_iv ρ i) n := by
  obtain ⟨b1, b2⟩ := (ri_bd_s hsat i).1 hk
  intro h
  rcases h with h | h
  · rw [Int32.lt_iff_toInt_lt] at h
    have e : (0 : Int32).toInt = 0 := by decide
    omega
  · have e : ((ri_iv ρ i).toNatClampNeg : Int) = (ri_iv ρ i).toInt := by
      show (((ri_iv ρ i).toInt.toNat : Nat) : Int) = _
      omega
    omega
/-- the facts of the script -/
def ri_hsc (G : ri_Tb) (M : ri_Mt) (sa : String → Nat → Nat) (A : Nat → Prop) (s : State) : Prop := ri_lw M = true → va_X (sa "" 0) (ri_sn G) (ri_sf G) s s.heap ∧ sa "" 0 < s.heap.size ∧ ¬ A (sa "" 0)
theorem ri_sld_W (hsc : ri_hsc G M sa A s) (hC : ri_Ctx ALL STR sa G M D tyc A p s m args meth c) (h : ri_sld G M st mem = some x) (hd : decode (ri_by M) pc = .ok (.iaload, x.1)) (hP : va_P D (ri_cls G) (ri_w ρ sa (ri_aty G) tyc ad mem) H) (hD : va_D A (ri_w ρ sa (ri_aty G) tyc ad mem)) (hS : va_S A s.heap H locs) (hok : ri_okM mem.length mem) (hst : ∀ t ∈ st, ri_ok mem.length t)
    (kk : ri_KK p l e R s m args below meth c cells slots Q G D tyc A ρ sa ad mem ls pc x) : W p l e R s m args below meth c H locs cells slots Q (F0 m pc ls (st.map (ri_cv ρ sa ad))) := by
  obtain ⟨⟨hx, hb, hml, hown, hin⟩, hM, hcl, hlk, hts, hK, hA, hstr⟩ := hC
  unfold ri_sld at h
  split at h
  · next i tx k r =>
    split at h
    · next j hj =>
      split at h
      · next hk =>
        cases h
        obtain ⟨hl, rfl, rfl⟩ := hk
        obtain ⟨s1, s2, s3⟩ := hsc hl
        obtain ⟨v, rfl, hv, hvj, hjn⟩ := ri_ix_s hj
        have k1 := kk ad H locs ri_ag_rf hP hD hS hok (Nat.le_refl _) (ri_all_cons0 trivial (fun z hz => hst z (List.mem_cons_of_mem _ (List.mem_cons_of_mem _ hz))))
        rw [List.map_cons, ← hvj] at k1
        exact va_sld hx hb s1 s2 s3 hS hv hd k1
      · cases h
    · cases h
  · cases h
theorem ri_slen_W (hsc : ri_hsc G M sa A s) (hC : ri_Ctx ALL STR sa G M D tyc A p s m args meth c) (h : ri_slen G M st mem = some x) (hd : decode (ri_by M) pc = .ok (.arraylength, x.1)) (hP : va_P D (ri_cls G) (ri_w ρ sa (ri_aty G) tyc ad mem) H) (hD : va_D A (ri_w ρ sa (ri_aty G) tyc ad mem)) (hS : va_S A s.heap H locs) (hok : ri_okM mem.length mem) (hst : ∀ t ∈ st, ri_ok mem.length t)
    (kk : ri_KK p l e R s m args below meth c cells slots Q G D tyc A ρ sa ad mem ls pc x) : W p l e R s m args below meth c H locs cells slots Q (F0 m pc ls (st.map (ri_cv ρ sa ad))) := by
  obtain ⟨⟨hx, hb, hml, hown, hin⟩, hM, hcl, hlk, hts, hK, hA, hstr⟩ := hC
  unfold ri_slen at h
  split at h
  · next tx k r =>
    split at h
    · next hk =>
      cases h
      obtain ⟨hl, rfl, rfl⟩ := hk
      obtain ⟨s1, s2, s3⟩ := hsc hl
      have k1 := kk ad H locs ri_ag_rf hP hD hS hok (Nat.le_refl _) (ri_all_cons0 trivial (fun z hz => hst z (List.mem_cons_of_mem _ hz)))
      exact va_slen hx hb s1 s2 s3 hS hd k1
    · cases h
  · cases h
theorem ri_iald_W (hC : ri_Ctx ALL STR sa G M D tyc A p s m args meth c) (h : ri_iald G cs st mem = some x) (hd : decode (ri_by M) pc = .ok (.iaload, x.1)) (hP : va_P D (ri_cls G) (ri_w ρ sa (ri_aty G) tyc ad mem) H) (hD : va_D A (ri_w ρ sa (ri_aty G) tyc ad mem)) (hS : va_S A s.heap H locs) (hok : ri_okM mem.length mem) (hst : ∀ t ∈ st, ri_ok mem.length t)
    (hsat : ∀ q ∈ cs, ri_sat ρ q) (hob : ∀ o ∈ x.2.2.2.2.2, ri_obs ρ o)
    (kk : ri_KK p l e R s m args below meth c cells slots Q G D tyc A ρ sa ad mem ls pc x) : W p l e R s m args below meth c H locs cells slots Q (F0 m pc ls (st.map (ri_cv ρ sa ad))) := by
  obtain ⟨⟨hx, hb, hml, hown, hin⟩, hM, hcl, hlk, hts, hK, hA, hstr⟩ := hC
  unfold ri_iald at h
  split at h
  · next i k r =>
    split at h
    · next ty n d ov hm =>
      split at h
      · next hty =>
        have hw := ri_w_get (ρ := ρ) (sa := sa) (aty := ri_aty G) (tyc := tyc) (ad := ad) hm
        rw [ri_ce_int hty] at hw
        have hokc := hok _ (List.mem_of_getElem? hm)
        split at h
        · next j hj =>
          split at h
          · next hk0 =>
            cases h
            obtain ⟨v, rfl, hv, hvj, hjn⟩ := ri_ix_s hj
            have k1 := kk ad H locs ri_ag_rf hP hD hS hok (Nat.le_refl _) (fun z hz => by
              rcases List.mem_cons.mp hz with rfl | hz
              · exact ri_look_ok hokc.1 hokc.2
              · exact hst z (List.mem_cons_of_mem _ (List.mem_cons_of_mem _ hz)))
            rw [List.map_cons, ri_I hk0, ← hvj] at k1
            exact va_iald hx hb hK hP k ty hw (ri_tys_get hty) hv hd k1
          · cases h
        · next hj =>
          split at h
          · split at h
            · next hk0 =>
              cases h
              obtain ⟨hk0, hk1, hb1, hb2⟩ := hk0
              have k1 := kk ad H locs ri_ag_rf hP hD hS hok (Nat.le_refl _) (fun z hz => by
                rcases List.mem_cons.mp hz with rfl | hz
                · exact hokc.1
                · exact hst z (List.mem_cons_of_mem _ (List.mem_cons_of_mem _ hz)))
              have hv := ri_in_s hsat hk0 hb1 hb2
              rw [List.map_cons, ri_I hk1] at k1
              rw [List.map_cons, List.map_cons, ri_ivI hk0]
              exact va_iald hx hb hK hP k ty hw (ri_tys_get hty) hv hd k1
            · cases h
          · cases h
      · cases h
    · cases h
  · cases h
theorem ri_iast_W (hC : ri_Ctx ALL STR sa G M D tyc A p s m args meth c) (h : ri_iast G st mem = some x) (hd : decode (ri_by M) pc = .ok (.iastore, x.1)) (hP : va_P D (ri_cls G) (ri_w ρ sa (ri_aty G) tyc ad mem) H) (hD : va_D A (ri_w ρ sa (ri_aty G) tyc ad mem)) (hS : va_S A s.heap H locs) (hok : ri_okM mem.length mem) (hst : ∀ t ∈ st, ri_ok mem.length t)
    (kk : ri_KK p l e R s m args below meth c cells slots Q G D tyc A ρ sa ad mem ls pc x) : W p l e R s m args below meth c H locs cells slots Q (F0 m pc ls (st.map (ri_cv ρ sa ad))) := by
  obtain ⟨⟨hx, hb, hml, hown, hin⟩, hM, hcl, hlk, hts, hK, hA, hstr⟩ := hC
  unfold ri_iast at h
  split at h
  · next t i k r =>
    split at h
    · next ty n d ov hm =>
      split at h
      · next j hj =>
        split at h
        · next hk0 =>
          cases h
          obtain ⟨hty, hk0⟩ := hk0
          have hw := ri_w_get (ρ := ρ) (sa := sa) (aty := ri_aty G) (tyc := tyc) (ad := ad) hm
          rw [ri_ce_int hty] at hw
          have hokc := hok _ (List.mem_of_getElem? hm)
          obtain ⟨v, rfl, hv, hvj, hjn⟩ := ri_ix_s hj
          rw [List.map_cons, ri_I hk0]
          refine va_iast hx hb hK hP hD hS k ty hw (ri_tys_get hty) hv hd (fun H1 locs1 hP1 hD1 hS1 => ?_)
          have e8 : upd (fun j => ri_gI (ri_cv ρ sa ad (ri_look d ov j))) v.toNatClampNeg (ri_gI (ri_cv ρ sa ad t)) = fun i => ri_gI (ri_cv ρ sa ad (ri_look d (ri_put d ov j t) i)) := by
            funext i
            rw [ri_put_cv, hvj]
            unfold upd
            split <;> rfl
          have e9 := ri_w_set (ρ := ρ) (sa := sa) (aty := ri_aty G) (tyc := tyc) (ad := ad) (mem := mem) (k := k) (e := .inr (ty, n, d, ri_put d ov j t))
          rw [ri_ce_int hty] at e9
          rw [e8, e9] at hP1 hD1
          refine kk ad H1 locs1 ri_ag_rf hP1 hD1 hS1 ?_ ?_ ?_
          · show ri_okM (mem.set k _).length _
            rw [List.length_set]
            exact ri_okM_set hok ⟨hokc.1, ri_put_ok (hst t List.mem_cons_self) hokc.2⟩
          · show mem.length ≤ (mem.set k _).length
            rw [List.length_set]; exact Nat.le_refl _
          · intro z hz
            show ri_ok (mem.set k _).length z
            rw [List.length_set]
            exact hst z (List.mem_cons_of_mem _ (List.mem_cons_of_mem _ (List.mem_cons_of_mem _ hz)))
        · cases h
      · cases h
    · cases h
  · cases h
theorem ri_ce_long {ty n : Nat} {d : Jvm.Term} {ov : List (Nat × Jvm.Term)} (h : (ri_aty G)[ty]? = some .long) : ri_ce ρ sa (ri_aty G) tyc ad (.inr (ty, n, d, ov)) = .inl (tyc ty, n, .inr (.inl (fun j => ri_gL (ri_cv ρ sa ad (ri_look d ov j))))) := by
  simp only [ri_ce]
  rw [h]
  rfl
theorem ri_lald_W (hC : ri_Ctx ALL STR sa G M D tyc A p s m args meth c) (h : ri_lald G st mem = some x) (hd : decode (ri_by M) pc = .ok (.laload, x.1)) (hP : va_P D (ri_cls G) (ri_w ρ sa (ri_aty G) tyc ad mem) H) (hD : va_D A (ri_w ρ sa (ri_aty G) tyc ad mem)) (hS : va_S A s.heap H locs) (hok : ri_okM mem.length mem) (hst : ∀ t ∈ st, ri_ok mem.length t)
    (kk : ri_KK p l e R s m args below meth c cells slots Q G D tyc A ρ sa ad mem ls pc x) : W p l e R s m args below meth c H locs cells slots Q (F0 m pc ls (st.map (ri_cv ρ sa ad))) := by
  obtain ⟨⟨hx, hb, hml, hown, hin⟩, hM, hcl, hlk, hts, hK, hA, hstr⟩ := hC
  unfold ri_lald at h
  split at h
  · next i k r =>
    split at h
    · next ty n d ov hm =>
      split at h
      · next j hj =>
        split at h
        · next hk0 =>
          cases h
          obtain ⟨hty, hk0⟩ := hk0
          have hw := ri_w_get (ρ := ρ) (sa := sa) (aty := ri_aty G) (tyc := tyc) (ad := ad) hm
          rw [ri_ce_long hty] at hw
          have hokc := hok _ (List.mem_of_getElem? hm)
          obtain ⟨v, rfl, hv, hvj, hjn⟩ := ri_ix_s hj
          have k1 := kk ad H locs ri_ag_rf hP hD hS hok (Nat.le_refl _) (fun z hz => by
            rcases List.mem_cons.mp hz with rfl | hz
            · exact ri_look_ok hokc.1 hokc.2
            · exact hst z (List.mem_cons_of_mem _ (List.mem_cons_of_mem _ hz)))
          rw [List.map_cons, ri_L hk0, ← hvj] at k1
          exact va_lald hx hb hK hP k ty hw (ri_tys_get hty) hv hd k1
        · cases h
      · cases h
    · cases h
  · cases h
theorem ri_last_W (hC : ri_Ctx ALL STR sa G M D tyc A p s m args meth c) (h : ri_last G st mem = some x) (hd : decode (ri_by M) pc = .ok (.lastore, x.1)) (hP : va_P D (ri_cls G) (ri_w ρ sa (ri_aty G) tyc ad mem) H) (hD : va_D A (ri_w ρ sa (ri_aty G) tyc ad mem)) (hS : va_S A s.heap H locs) (hok : ri_okM mem.length mem) (hst : ∀ t ∈ st, ri_ok mem.length t)
    (kk : ri_KK p l e R s m args below meth c cells slots Q G D tyc A ρ sa ad mem ls pc x) : W p l e R s m args below meth c H locs cells slots Q (F0 m pc ls (st.map (ri_cv ρ sa ad))) := by
  obtain ⟨⟨hx, hb, hml, hown, hin⟩, hM, hcl, hlk, hts, hK, hA, hstr⟩ := hC
  unfold ri_last at h
  split at h
  · next t i k r =>
    split at h
    · next ty n d ov hm =>
      split at h
      · next j hj =>
        split at h
        · next hk0 =>
          cases h
          obtain ⟨hty, hk0⟩ := hk0
          have hw := ri_w_get (ρ := ρ) (sa := sa) (aty := ri_aty G) (tyc := tyc) (ad := ad) hm
          rw [ri_ce_long hty] at hw
          have hokc := hok _ (List.mem_of_getElem? hm)
          obtain ⟨v, rfl, hv, hvj, hjn⟩ := ri_ix_s hj
          rw [List.map_cons, ri_L hk0]
          refine va_last hx hb hK hP hD hS k ty hw (ri_tys_get hty) hv hd (fun H1 locs1 hP1 hD1 hS1 => ?_)
          have e8 : vp_updL (fun j => ri_gL (ri_cv ρ sa ad (ri_look d ov j))) v.toNatClampNeg (ri_gL (ri_cv ρ sa ad t)) = fun i => ri_gL (ri_cv ρ sa ad (ri_look d (ri_put d ov j t) i)) := by
            funext i
            rw [ri_put_cv, hvj]
            unfold vp_updL
            split <;> rfl
          have e9 := ri_w_set (ρ := ρ) (sa := sa) (aty := ri_aty G) (tyc := tyc) (ad := ad) (mem := mem) (k := k) (e := .inr (ty, n, d, ri_put d ov j t))
          rw [ri_ce_long hty] at e9
          rw [e8, e9] at hP1 hD1
          refine kk ad H1 locs1 ri_ag_rf hP1 hD1 hS1 ?_ ?_ ?_
          · show ri_okM (mem.set k _).length _
            rw [List.length_set]
            exact ri_okM_set hok ⟨hokc.1, ri_put_ok (hst t List.mem_cons_self) hokc.2⟩
          · show mem.length ≤ (mem.set k _).length
            rw [List.length_set]; exact Nat.le_refl _
          · intro z hz
            show ri_ok (mem.set k _).length z
            rw [List.length_set]
            exact hst z (List.mem_cons_of_mem _ (List.mem_cons_of_mem _ (List.mem_cons_of_mem _ hz)))
        · cases h
      · cases h
    · cases h
  · cases h
theorem ri_rf {t : Jvm.Term} (h : ri_k t = 2 ∨ ri_k t = 3) : va_rf (ri_gR (ri_cv ρ sa ad t)) = ri_cv ρ sa ad t := by
  rcases h with h | h
  · obtain ⟨a, ha⟩ := ri_R (ρ := ρ) (sa := sa) (ad := ad) h
    rw [ha]; rfl
  · rw [ri_N h]; rfl
theorem ri_aald_W (hC : ri_Ctx ALL STR sa G M D tyc A p s m args meth c) (h : ri_aald G st mem = some x) (hd : decode (ri_by M) pc = .ok (.aaload, x.1)) (hP : va_P D (ri_cls G) (ri_w ρ sa (ri_aty G) tyc ad mem) H) (hD : va_D A (ri_w ρ sa (ri_aty G) tyc ad mem)) (hS : va_S A s.heap H locs) (hok : ri_okM mem.length mem) (hst : ∀ t ∈ st, ri_ok mem.length t)
    (kk : ri_KK p l e R s m args below meth c cells slots Q G D tyc A ρ sa ad mem ls pc x) : W p l e R s m args below meth c H locs cells slots Q (F0 m pc ls (st.map (ri_cv ρ sa ad))) := by
  obtain ⟨⟨hx, hb, hml, hown, hin⟩, hM, hcl, hlk, hts, hK, hA, hstr⟩ := hC
  unfold ri_aald at h
  split at h
  · next i k r =>
    split at h
    · next ty n d ov hm =>
      split at h
      · next j C hj hty =>
        split at h
        · next hk0 =>
          cases h
          have hw := ri_w_get (ρ := ρ) (sa := sa) (aty := ri_aty G) (tyc := tyc) (ad := ad) hm
          rw [ri_ce_ref hty] at hw
          have hokc := hok _ (List.mem_of_getElem? hm)
          obtain ⟨v, rfl, hv, hvj, hjn⟩ := ri_ix_s hj
          have k1 := kk ad H locs ri_ag_rf hP hD hS hok (Nat.le_refl _) (fun z hz => by
            rcases List.mem_cons.mp hz with rfl | hz
            · exact ri_look_ok hokc.1 hokc.2
            · exact hst z (List.mem_cons_of_mem _ (List.mem_cons_of_mem _ hz)))
          rw [List.map_cons, ← ri_rf hk0, ← hvj] at k1
          exact va_aldq hx hb hK hP k ty hw (ri_tys_get hty) hv hd k1
        · cases h
      · cases h
    · cases h
  · cases h
theorem ri_aast_W (hC : ri_Ctx ALL STR sa G M D tyc A p s m args meth c) (h : ri_aast G st mem = some x) (hd : decode (ri_by M) pc = .ok (.aastore, x.1)) (hP : va_P D (ri_cls G) (ri_w ρ sa (ri_aty G) tyc ad mem) H) (hD : va_D A (ri_w ρ sa (ri_aty G) tyc ad mem)) (hS : va_S A s.heap H locs) (hok : ri_okM mem.length mem) (hst : ∀ t ∈ st, ri_ok mem.length t)
    (kk : ri_KK p l e R s m args below meth c cells slots Q G D tyc A ρ sa ad mem ls pc x) : W p l e R s m args below meth c H locs cells slots Q (F0 m pc ls (st.map (ri_cv ρ sa ad))) := by
  obtain ⟨⟨hx, hb, hml, hown, hin⟩, hM, hcl, hlk, hts, hK, hA, hstr⟩ := hC
  unfold ri_aast at h
  split at h
  · next kv i k r =>
    split at h
    · next ty n d ov ci fs hm hmv =>
      split at h
      · next j rr hj hc1 =>
        split at h
        · next hty =>
          cases h
          have hw := ri_w_get (ρ := ρ) (sa := sa) (aty := ri_aty G) (tyc := tyc) (ad := ad) hm
          rw [ri_ce_ref hty] at hw
          have hwv := ri_w_get (ρ := ρ) (sa := sa) (aty := ri_aty G) (tyc := tyc) (ad := ad) hmv
          have hokc := hok _ (List.mem_of_getElem? hm)
          obtain ⟨v, rfl, hv, hvj, hjn⟩ := ri_ix_s hj
          refine va_astq hx hb hK hP hD hS k ty kv ci hw (ri_tys_get hty) hwv hc1 hv hd (fun H1 locs1 hP1 hD1 hS1 => ?_)
          have e8 : va_up (fun j => ri_gR (ri_cv ρ sa ad (ri_look d ov j))) v.toNatClampNeg (some (ad kv)) = fun i => ri_gR (ri_cv ρ sa ad (ri_look d (ri_put d ov j (.index kv)) i)) := by
            funext i
            rw [ri_put_cv, hvj]
            unfold va_up
            split <;> rfl
          have e9 := ri_w_set (ρ := ρ) (sa := sa) (aty := ri_aty G) (tyc := tyc) (ad := ad) (mem := mem) (k := k) (e := .inr (ty, n, d, ri_put d ov j (.index kv)))
          rw [ri_ce_ref hty] at e9
          rw [e8, e9] at hP1 hD1
          refine kk ad H1 locs1 ri_ag_rf hP1 hD1 hS1 ?_ ?_ ?_
          · show ri_okM (mem.set k _).length _
            rw [List.length_set]
            exact ri_okM_set hok ⟨hokc.1, ri_put_ok (hst _ List.mem_cons_self) hokc.2⟩
          · show mem.length ≤ (mem.set k _).length
            rw [List.length_set]; exact Nat.le_refl _
          · intro z hz
            show ri_ok (mem.set k _).length z
            rw [List.length_set]
            exact hst z (List.mem_cons_of_mem _ (List.mem_cons_of_mem _ (List.mem_cons_of_mem _ hz)))
        · cases h
      · cases h
    · cases h
  · cases h
theorem ri_alen_W (hC : ri_Ctx ALL STR sa G M D tyc A p s m args meth c) (h : ri_alen G st mem = some x) (hd : decode (ri_by M) pc = .ok (.arraylength, x.1)) (hP : va_P D (ri_cls G) (ri_w ρ sa (ri_aty G) tyc ad mem) H) (hD : va_D A (ri_w ρ sa (ri_aty G) tyc ad mem)) (hS : va_S A s.heap H locs) (hok : ri_okM mem.length mem) (hst : ∀ t ∈ st, ri_ok mem.length t)
    (kk : ri_KK p l e R s m args below meth c cells slots Q G D tyc A ρ sa ad mem ls pc x) : W p l e R s m args below meth c H locs cells slots Q (F0 m pc ls (st.map (ri_cv ρ sa ad))) := by
  obtain ⟨⟨hx, hb, hml, hown, hin⟩, hM, hcl, hlk, hts, hK, hA, hstr⟩ := hC
  unfold ri_alen at h
  split at h
  · next k r =>
    split at h
    · next ty n d ov hm =>
      split at h
      · next z hz =>
        cases h
        have hw := ri_w_get (ρ := ρ) (sa := sa) (aty := ri_aty G) (tyc := tyc) (ad := ad) hm
        have k1 := kk ad H locs ri_ag_rf hP hD hS hok (Nat.le_refl _) (fun z hz => by
          rcases List.mem_cons.mp hz with rfl | hz
          · rw [ri_ci_eq]; trivial
          · exact hst z (List.mem_cons_of_mem _ hz))
        rw [List.map_cons, ri_ci_eq] at k1
        exact va_alen hx hb hK hP k ty hw (ri_tys_get hz) rfl hd k1
      · cases h
    · cases h
  · cases h
theorem ri_newo_W (hC : ri_Ctx ALL STR sa G M D tyc A p s m args meth c) (h : ri_newo G M idx st mem = some x) (hd : decode (ri_by M) pc = .ok (.new idx, x.1)) (hP : va_P D (ri_cls G) (ri_w ρ sa (ri_aty G) tyc ad mem) H) (hD : va_D A (ri_w ρ sa (ri_aty G) tyc ad mem)) (hS : va_S A s.heap H locs) (hok : ri_okM mem.length mem) (hst : ∀ t ∈ st, ri_ok mem.length t)
    (hc1 : cells + x.2.2.2.1 ≤ R.cells) (hs1 : slots + x.2.2.2.2.1 ≤ R.slots)
    (kk : ri_KK p l e R s m args below meth c cells slots Q G D tyc A ρ sa ad mem ls pc x) : W p l e R s m args below meth c H locs cells slots Q (F0 m pc ls (st.map (ri_cv ρ sa ad))) := by
  obtain ⟨⟨hx, hb, hml, hown, hin⟩, hM, hcl, hlk, hts, hK, hA, hstr⟩ := hC
  unfold ri_newo at h
  split at h
  · next ci b tx hcp =>
    split at h
    · next C0 T0 N tys hc0 hty =>
      cases h
      obtain ⟨C, T, N2, g1, g2, g3, g4⟩ := ri_cp_s hlk hM hcp
      rw [hc0] at g1
      cases g1
      obtain ⟨tys2, q1, q2, q3, q4, q5⟩ := hcl _ _ _ _ hc0
      rw [hty] at q1
      cases q1
      have hty0 : ∀ k, k < N → parseFieldDescriptor (T0 k).2.2.1 = some (tys.getD k .int) := fun k hk => by
        rw [q3 k hk, List.getD_eq_getElem?_getD]
        rw [← q2] at hk
        rw [List.getElem?_eq_getElem hk]; rfl
      refine va_new (Ts := ALL) (ci := ci) (fs := (tys.map ri_dft).map (ri_cv ρ sa ad)) hx hb hts q5 (fun k => tys.getD k .int) hty0 hown (hts _ g2) (hts _ g3) (hts _ g4) hK hP hD hS hA hc0 ?_ hc1 hs1 hd (fun q H1 hP1 hD1 hS1 => ?_)
      · intro j hj
        rw [← q2] at hj
        simp only [vp_V, List.getD_eq_getElem?_getD, List.getElem?_map, List.getElem?_eq_getElem hj, Option.map_some, Option.getD_some]
        exact (ri_dft_s _).symm
      · have e9 := ri_w_push (ρ := ρ) (sa := sa) (aty := ri_aty G) (tyc := tyc) (ad := ad) (q := q) (e := .inl (ci, tys.map ri_dft)) hok
        have hag : ri_ag mem.length ad (fun k => if k = mem.length then q else ad k) := fun k hk => if_neg (Nat.ne_of_lt hk)
        have hok2 : ∀ t ∈ tys.map ri_dft, ri_ok mem.length t := fun t ht => by
          obtain ⟨ty, -, rfl⟩ := List.mem_map.mp ht
          exact ri_dft_ok ty
        have e8 : ri_ce ρ sa (ri_aty G) tyc (fun k => if k = mem.length then q else ad k) (.inl (ci, tys.map ri_dft)) = .inr (ci, (tys.map ri_dft).map (ri_cv ρ sa ad)) := by
          simp only [ri_ce]
          rw [ri_map_ag hok2 hag]
        rw [e8] at e9
        rw [← e9] at hP1 hD1
        have hlen : (mem ++ [(.inl (ci, tys.map ri_dft) : ri_Ce)]).length = mem.length + 1 := by simp
        have k1 := kk (fun k => if k = mem.length then q else ad k) H1 locs hag hP1 hD1 hS1 (by
          show ri_okM (mem ++ [_]).length (mem ++ [_])
          rw [hlen]
          exact ri_okM_push hok (fun t ht => ri_ok_mono (hok2 t ht) (Nat.le_succ _))) (by
          show mem.length ≤ (mem ++ [_]).length
          rw [hlen]; exact Nat.le_succ _) (by
          intro z hz
          show ri_ok (mem ++ [_]).length z
          rw [hlen]
          rcases List.mem_cons.mp hz with rfl | hz
          · exact Nat.lt_succ_self _
          · exact ri_ok_mono (hst z hz) (Nat.le_succ _))
        have e7 : ((.index mem.length :: st : List Jvm.Term).map (ri_cv ρ sa (fun k => if k = mem.length then q else ad k))) = .ref q :: st.map (ri_cv ρ sa ad) := by
          rw [List.map_cons, ri_map_ag hst hag]
          show Value.ref (if mem.length = mem.length then q else ad mem.length) :: _ = _
          rw [if_pos rfl]
        have k2 := k1
        simp only [e7] at k2
        exact k2
    · cases h
  · cases h
theorem ri_unique {cl : List vw_C} {aty : List FieldType} {j : Nat} {ty : FieldType} {cA : ClassId} (hK : va_K D cl (ri_tys aty tyc) s) (hj : aty[j]? = some ty) (hK2 : va_K D cl (ri_tys aty tyc ++ [(cA, ty)]) s) : cA = tyc j := by
  have h1 := (hK.2 j _ (ri_tys_get hj)).2
  have h2 := (hK2.2 (ri_tys aty tyc).length (cA, ty) (by simp)).2
  cases ty with
  | object C =>
    obtain ⟨-, -, -, -, -, e1⟩ := h1
    obtain ⟨-, -, -, -, -, e2⟩ := h2
    exact Option.some.inj (e2.symm.trans e1)
  | _ => exact Option.some.inj (Eq.trans (Eq.symm h2) h1)
/-- a new row: what is behind it -/
theorem ri_newr_k {a N : Nat} {d : Jvm.Term} {len : Nat} {r : List Jvm.Term} {q : Nat} {H1 : Heap} {va : va_E} (hS1 : va_S A s.heap H1 locs) (hok : ri_okM mem.length mem) (hst : ∀ t ∈ r, ri_ok mem.length t) (hdk : ∀ k, d ≠ .index k)
    (hce : ∀ ad2, ri_ce ρ sa (ri_aty G) tyc ad2 (.inr (a, N, d, [])) = va) (hP1 : va_P D (ri_cls G) (ri_w ρ sa (ri_aty G) tyc ad mem ++ [(q, va)]) H1) (hD1 : va_D A (ri_w ρ sa (ri_aty G) tyc ad mem ++ [(q, va)]))
    (kk : ri_KK p l e R s m args below meth c cells slots Q G D tyc A ρ sa ad mem ls pc (len, .index mem.length :: r, mem ++ [.inr (a, N, d, [])], 1, N, [])) :
    W p l e R s m args below meth c H1 locs (cells + 1) (slots + N) Q (F0 m (pc + len) ls (.ref q :: r.map (ri_cv ρ sa ad))) := by
  have e9 := ri_w_push (ρ := ρ) (sa := sa) (aty := ri_aty G) (tyc := tyc) (ad := ad) (q := q) (e := .inr (a, N, d, [])) hok
  have hag : ri_ag mem.length ad (fun k => if k = mem.length then q else ad k) := fun k hk => if_neg (Nat.ne_of_lt hk)
  rw [hce] at e9
  rw [← e9] at hP1 hD1
  have hokd : ∀ n, ri_ok n d := fun n => by cases d <;> first | trivial | exact absurd rfl (hdk _)
  have hlen : (mem ++ [(.inr (a, N, d, []) : ri_Ce)]).length = mem.length + 1 := by simp
  have k1 := kk (fun k => if k = mem.length then q else ad k) H1 locs hag hP1 hD1 hS1 (by
    show ri_okM (mem ++ [_]).length (mem ++ [_])
    rw [hlen]
    exact ri_okM_push hok ⟨hokd _, fun q hq => by cases hq⟩) (by
    show mem.length ≤ (mem ++ [_]).length
    rw [hlen]; exact Nat.le_succ _) (by
    intro z hz
    show ri_ok (mem ++ [_]).length z
    rw [hlen]
    rcases List.mem_cons.mp hz with rfl | hz
    · exact Nat.lt_succ_self _
    · exact ri_ok_mono (hst z hz) (Nat.le_succ _))
  have e7 : ((.index mem.length :: r : List Jvm.Term).map (ri_cv ρ sa (fun k => if k = mem.length then q else ad k))) = .ref q :: r.map (ri_cv ρ sa ad) := by
    rw [List.map_cons, ri_map_ag hst hag]
    show Value.ref (if mem.length = mem.length then q else ad mem.length) :: _ = _
    rw [if_pos rfl]
  have k2 := k1
  simp only [e7] at k2
  exact k2
theorem ri_newr_s {ty : FieldType} {len : Nat} (h : ri_newr G ty len st mem = some x) : ∃ (v : Int32) (r : List Jvm.Term) (a : Nat), st = .int v :: r ∧ (ri_aty G)[a]? = some ty ∧ ri_isI ty = true ∧ ¬ v < 0 ∧ v.toNatClampNeg ≤ 65536 ∧ x = (len, .index mem.length :: r, mem ++ [.inr (a, v.toNatClampNeg, ri_dft ty, [])], 1, v.toNatClampNeg, []) := by
  unfold ri_newr at h
  split at h
  · next v r a ha =>
    split at h
    · next hk =>
      cases h
      refine ⟨v, r, a, rfl, ?_, hk.1, hk.2.1, hk.2.2, rfl⟩
      obtain ⟨ha1, ha2, -⟩ := List.findIdx?_eq_some_iff_getElem.mp ha
      rw [List.getElem?_eq_getElem ha1]
      simpa using ha2
    · cases h
  · cases h
theorem ri_newa_W {t : ArrayType} (hC : ri_Ctx ALL STR sa G M D tyc A p s m args meth c) (hac : Jvm.Cond.arrayClass (newarray.typeOf t) ∈ ALL) (h : ri_newr G (ri_typeOf t) 2 st mem = some x) (hd : decode (ri_by M) pc = .ok (.newarray t, 2)) (hP : va_P D (ri_cls G) (ri_w ρ sa (ri_aty G) tyc ad mem) H) (hD : va_D A (ri_w ρ sa (ri_aty G) tyc ad mem)) (hS : va_S A s.heap H locs) (hok : ri_okM mem.length mem) (hst : ∀ t ∈ st, ri_ok mem.length t)
    (hc1 : cells + x.2.2.2.1 ≤ R.cells) (hs1 : slots + x.2.2.2.2.1 ≤ R.slots)
    (kk : ri_KK p l e R s m args below meth c cells slots Q G D tyc A ρ sa ad mem ls pc x) : W p l e R s m args below meth c H locs cells slots Q (F0 m pc ls (st.map (ri_cv ρ sa ad))) := by
  obtain ⟨⟨hx, hb, hml, hown, hin⟩, hM, hcl, hlk, hts, hK, hA, hstr⟩ := hC
  obtain ⟨v, r, a, rfl, ha, hi, hv0, hv1, rfl⟩ := ri_newr_s h
  have hty : newarray.typeOf t = ri_typeOf t := rfl
  obtain ⟨a0, hcell, hce9⟩ : ∃ a0 : vp_A, (∀ cA : ClassId, vp_cell cA a0 = arrV cA v.toNatClampNeg (fun _ => defaultValue (ri_typeOf t))) ∧ ∀ ad2, ri_ce ρ sa (ri_aty G) tyc ad2 (.inr (a, v.toNatClampNeg, ri_dft (ri_typeOf t), [])) = .inl (tyc a, a0) := by
    cases t with
    | long => exact ⟨(v.toNatClampNeg, .inr (.inl (fun _ => 0))), fun cA => rfl, fun ad2 => by simp only [ri_ce]; rw [ha]; rfl⟩
    | int => exact ⟨(v.toNatClampNeg, .inl (fun _ => 0)), fun cA => rfl, fun ad2 => by simp only [ri_ce]; rw [ha]; rfl⟩
    | boolean => exact ⟨(v.toNatClampNeg, .inl (fun _ => 0)), fun cA => rfl, fun ad2 => by simp only [ri_ce]; rw [ha]; rfl⟩
    | byte => exact ⟨(v.toNatClampNeg, .inl (fun _ => 0)), fun cA => rfl, fun ad2 => by simp only [ri_ce]; rw [ha]; rfl⟩
    | char => exact ⟨(v.toNatClampNeg, .inl (fun _ => 0)), fun cA => rfl, fun ad2 => by simp only [ri_ce]; rw [ha]; rfl⟩
    | short => exact ⟨(v.toNatClampNeg, .inl (fun _ => 0)), fun cA => rfl, fun ad2 => by simp only [ri_ce]; rw [ha]; rfl⟩
    | _ => cases hi
  have hbytes : v.toNatClampNeg * componentBytes (ri_typeOf t) ≤ 536870912 := Nat.le_trans (Nat.mul_le_mul hv1 (show componentBytes (ri_typeOf t) ≤ 8 by cases t <;> decide)) (by decide)
  refine va_newa hx hb (hts _ hac) hty hK hP hD hS hA hcell hv0 rfl hbytes hc1 hs1 hd (fun q cA H1 hK1 hP1 hD1 hS1 => ?_)
  have e1 := ri_unique hK ha hK1
  subst e1
  exact ri_newr_k hS1 hok (fun t ht => hst t (List.mem_cons_of_mem _ ht)) (fun k => by cases t <;> first | (intro e; cases e; done) | cases hi) hce9 hP1 hD1 kk
theorem ri_newq_W {a : Nat} {ty : FieldType} {C : String} (hC : ri_Ctx ALL STR sa G M D tyc A p s m args meth c) (hl1 : Jvm.Cond.classLink (ri_own M) idx C ∈ ALL) (hl2 : Jvm.Cond.arrayOver (.object C) ∈ ALL) (h : ri_newr G (.object C) 3 st mem = some x) (hd : decode (ri_by M) pc = .ok (.anewarray idx, 3)) (hP : va_P D (ri_cls G) (ri_w ρ sa (ri_aty G) tyc ad mem) H) (hD : va_D A (ri_w ρ sa (ri_aty G) tyc ad mem)) (hS : va_S A s.heap H locs) (hok : ri_okM mem.length mem) (hst : ∀ t ∈ st, ri_ok mem.length t)
    (hc1 : cells + x.2.2.2.1 ≤ R.cells) (hs1 : slots + x.2.2.2.2.1 ≤ R.slots)
    (kk : ri_KK p l e R s m args below meth c cells slots Q G D tyc A ρ sa ad mem ls pc x) : W p l e R s m args below meth c H locs cells slots Q (F0 m pc ls (st.map (ri_cv ρ sa ad))) := by
  obtain ⟨⟨hx, hb, hml, hown, hin⟩, hM, hcl, hlk, hts, hK, hA, hstr⟩ := hC
  obtain ⟨v, r, a, rfl, ha, hi, hv0, hv1, rfl⟩ := ri_newr_s h
  have hbytes : v.toNatClampNeg * 4 ≤ 536870912 := Nat.le_trans (Nat.mul_le_mul hv1 (Nat.le_refl 4)) (by decide)
  refine va_newq hx hb hown (hts _ hl1) (va_AO.of (hts _ hl2)) hK hP hD hS hA hv0 rfl hbytes hc1 hs1 hd (fun q cA H1 hK1 hP1 hD1 hS1 => ?_)
  have e1 := ri_unique hK ha hK1
  subst e1
  exact ri_newr_k hS1 hok (fun t ht => hst t (List.mem_cons_of_mem _ ht)) (fun k e => by cases e) (fun ad2 => ri_ce_ref ha) hP1 hD1 kk
set_option maxHeartbeats 2000000 in
theorem ri_ldc_W (hC : ri_Ctx ALL STR sa G M D tyc A p s m args meth c) (h : ri_ldc G M idx st mem = some x) (hd : decode (ri_by M) pc = .ok (.ldc idx, x.1)) (hP : va_P D (ri_cls G) (ri_w ρ sa (ri_aty G) tyc ad mem) H) (hD : va_D A (ri_w ρ sa (ri_aty G) tyc ad mem)) (hS : va_S A s.heap H locs) (hok : ri_okM mem.length mem) (hst : ∀ t ∈ st, ri_ok mem.length t)
    (kk : ri_KK p l e R s m args below meth c cells slots Q G D tyc A ρ sa ad mem ls pc x) : W p l e R s m args below meth c H locs cells slots Q (F0 m pc ls (st.map (ri_cv ρ sa ad))) := by
  obtain ⟨⟨hx, hb, hml, hown, hin⟩, hM, hcl, hlk, hts, hK, hA, hstr⟩ := hC
  unfold ri_ldc at h
  split at h
  · next a b tx hcp =>
    cases h
    have hlink := ri_cp_s hlk hM hcp
    have k1 := kk ad H locs ri_ag_rf hP hD hS hok (Nat.le_refl _) (fun z hz => by
      rcases List.mem_cons.mp hz with rfl | hz
      · rw [ri_ci_eq]; trivial
      · exact hst z hz)
    rw [List.map_cons, ri_ci_eq] at k1
    exact lv_ldc hx hb hown (hts _ hlink) hd k1
  · next a b tx hcp =>
    cases h
    have hlink := ri_cp_s hlk hM hcp
    have k1 := kk ad H locs ri_ag_rf hP hD hS hok (Nat.le_refl _) (fun z hz => by
      rcases List.mem_cons.mp hz with rfl | hz
      · trivial
      · exact hst z hz)
    exact va_ldcS hx hb hown (hstr _ hlink) hd k1
  · cases h
theorem ri_ldcwS {q : Nat} {rest : List Value} {own tx : String} (hexec : p.tables.exec = Jvm.exec) (hb : c.code = ri_by M) (hown : s.vm.findClass own = some m.cls) (hZ : vk_R own idx tx q s) (hdg : decode (ri_by M) pc = .ok (.ldc_w idx, 3))
    (k : W p l e R s m args below meth c H locs cells slots Q (F0 m (pc + 3) ls (.ref q :: rest))) : W p l e R s m args below meth c H locs cells slots Q (F0 m pc ls rest) := by
  intro T hT X
  obtain ⟨t, a1, b1⟩ := k T hT X
  exact ⟨t, X.ldcStringW hexec hown (text := tx) (a := q) hZ.1 hZ.2 (g := F0 m pc ls rest) rfl (by rw [hb]; exact hdg) t a1, b1⟩
set_option maxHeartbeats 2000000 in
theorem ri_ldcw_W (hC : ri_Ctx ALL STR sa G M D tyc A p s m args meth c) (h : ri_ldcw G M idx st mem = some x) (hd : decode (ri_by M) pc = .ok (.ldc_w idx, x.1)) (hP : va_P D (ri_cls G) (ri_w ρ sa (ri_aty G) tyc ad mem) H) (hD : va_D A (ri_w ρ sa (ri_aty G) tyc ad mem)) (hS : va_S A s.heap H locs) (hok : ri_okM mem.length mem) (hst : ∀ t ∈ st, ri_ok mem.length t)
    (kk : ri_KK p l e R s m args below meth c cells slots Q G D tyc A ρ sa ad mem ls pc x) : W p l e R s m args below meth c H locs cells slots Q (F0 m pc ls (st.map (ri_cv ρ sa ad))) := by
  obtain ⟨⟨hx, hb, hml, hown, hin⟩, hM, hcl, hlk, hts, hK, hA, hstr⟩ := hC
  unfold ri_ldcw at h
  split at h
  · next a b tx hcp =>
    cases h
    have hlink := ri_cp_s hlk hM hcp
    have k1 := kk ad H locs ri_ag_rf hP hD hS hok (Nat.le_refl _) (ri_all_cons0 trivial hst)
    exact ri_ldcwS hx hb hown (hstr _ hlink) hd k1
  · cases h
theorem ri_ldc2_W (hC : ri_Ctx ALL STR sa G M D tyc A p s m args meth c) (h : ri_ldc2 G M idx st mem = some x) (hd : decode (ri_by M) pc = .ok (.ldc2_w idx, x.1)) (hP : va_P D (ri_cls G) (ri_w ρ sa (ri_aty G) tyc ad mem) H) (hD : va_D A (ri_w ρ sa (ri_aty G) tyc ad mem)) (hS : va_S A s.heap H locs) (hok : ri_okM mem.length mem) (hst : ∀ t ∈ st, ri_ok mem.length t)
    (kk : ri_KK p l e R s m args below meth c cells slots Q G D tyc A ρ sa ad mem ls pc x) : W p l e R s m args below meth c H locs cells slots Q (F0 m pc ls (st.map (ri_cv ρ sa ad))) := by
  obtain ⟨⟨hx, hb, hml, hown, hin⟩, hM, hcl, hlk, hts, hK, hA, hstr⟩ := hC
  unfold ri_ldc2 at h
  split at h
  · next a b tx hcp =>
    cases h
    have hlink := ri_cp_s hlk hM hcp
    have k1 := kk ad H locs ri_ag_rf hP hD hS hok (Nat.le_refl _) (fun z hz => by
      rcases List.mem_cons.mp hz with rfl | hz
      · rw [ri_cl_eq]; trivial
      · exact hst z hz)
    rw [List.map_cons, ri_cl_eq] at k1
    exact lv_ldc2 hx hb hown (hts _ hlink) hd k1
  · cases h
theorem ri_P_ext {cl : List vw_C} {ws : va_W} {q a n : Nat} {cA : ClassId} {f g : Nat → Int32} (h : va_P D cl (ws.set q (a, .inl (cA, n, .inl f))) H) (e : ∀ j, j < n → f j = g j) : va_P D cl (ws.set q (a, .inl (cA, n, .inl g))) H := by
  intro k z hk
  have hc : vp_cell cA (n, .inl f) = vp_cell cA (n, .inl g) := by
    show arrV cA n (fun j => .int (f j)) = arrV cA n (fun j => .int (g j))
    unfold arrV
    have e1 : (Array.ofFn (n := n) fun j => Value.int (f j.val)) = Array.ofFn (n := n) fun j => Value.int (g j.val) := by
      congr 1
      funext j
      rw [e j.val j.isLt]
    rw [e1]
  by_cases hq : q = k
  · subst hq
    have hl : q < ws.length := by
      have := (List.getElem?_eq_some_iff.mp hk).1
      simpa using this
    rw [List.getElem?_set_self hl] at hk
    cases hk
    have h1 := h q (a, .inl (cA, n, .inl f)) (List.getElem?_set_self hl)
    show H[a]? = some (vp_cell cA (n, .inl g))
    rw [← hc]
    exact h1
  · refine h k z ?_
    rw [List.getElem?_set_ne hq] at hk ⊢
    exact hk
theorem ri_sum4 {r : List Jvm.Term} (h : r.length ≤ 4) : ((r.map (ri_cv ρ sa ad)).map fun v => v.category).sum ≤ 8 := by
  have key : ∀ r : List Jvm.Term, ((r.map (ri_cv ρ sa ad)).map fun v => v.category).sum ≤ 2 * r.length := by
    intro r
    induction r with
    | nil => simp
    | cons a r ih =>
      simp only [List.map_cons, List.sum_cons, List.length_cons]
      rcases lv_cat (ri_cv ρ sa ad a) with h1 | h1 <;> omega
  have := key r
  omega
theorem ri_acpy_W (hC : ri_Ctx ALL STR sa G M D tyc A p s m args meth c) (hlk : Jvm.Cond.methodLink (ri_own M) idx arraycopyName ∈ ALL ∧ Jvm.Cond.native arraycopyName ∈ ALL ∧ Jvm.Cond.static arraycopyName ∈ ALL ∧ Jvm.Cond.initialized "java/lang/System" ∈ ALL) (h : ri_acpy G st mem = some x) (hd : decode (ri_by M) pc = .ok (.invokestatic idx, x.1)) (hP : va_P D (ri_cls G) (ri_w ρ sa (ri_aty G) tyc ad mem) H) (hD : va_D A (ri_w ρ sa (ri_aty G) tyc ad mem)) (hS : va_S A s.heap H locs) (hok : ri_okM mem.length mem) (hst : ∀ t ∈ st, ri_ok mem.length t)
    (hls : ls.size = ri_mx M) (hR1 : 1 ≤ R.frames) (hR2 : 100 ≤ R.locals)
    (kk : ri_KK p l e R s m args below meth c cells slots Q G D tyc A ρ sa ad mem ls pc x) : W p l e R s m args below meth c H locs cells slots Q (F0 m pc ls (st.map (ri_cv ρ sa ad))) := by
  obtain ⟨⟨hx, hb, hml, hown, hin⟩, hM, hcl, -, hts, hK, hA, hstr⟩ := hC
  unfold ri_acpy at h
  split at h
  · next n dp k1 sp k0 r =>
    split at h
    · next t0 n0 d0 o0 t1 n1 d1 o1 hm0 hm1 =>
      split at h
      · next hk =>
        cases h
        obtain ⟨hty, rfl, rfl, rfl, rfl, hn0, rfl, hr⟩ := hk
        have hw0 := ri_w_get (ρ := ρ) (sa := sa) (aty := ri_aty G) (tyc := tyc) (ad := ad) hm0
        have hw1 := ri_w_get (ρ := ρ) (sa := sa) (aty := ri_aty G) (tyc := tyc) (ad := ad) hm1
        rw [ri_ce_int hty] at hw0 hw1
        have hsum := ri_sum4 (ρ := ρ) (sa := sa) (ad := ad) hr
        refine va_copyi (ty := .int) hx hb (hml.trans hls.symm) hown (hts _ hlk.1) (hts _ hlk.2.1) (hts _ hlk.2.2.1) (hts _ hlk.2.2.2) hK hP hD hS k0 k1 t1 t1 hw0 hw1 (ri_tys_get hty) (ri_tys_get hty) rfl (by decide) (by decide) hn0 (by show 0 + _ ≤ _; omega) (by show 0 + _ ≤ _; omega) (fun _ _ => rfl) hR1 (Nat.le_trans (Nat.add_le_add hsum (show nativeFrameWords "java/lang/System" "arraycopy" 5 + 11 ≤ 92 by decide)) hR2) hd (fun H1 locs1 hP1 hD1 hS1 => ?_)
        have e9 := ri_w_set (ρ := ρ) (sa := sa) (aty := ri_aty G) (tyc := tyc) (ad := ad) (mem := mem) (k := k1) (e := .inr (t1, n.toNatClampNeg, d0, o0))
        rw [ri_ce_int hty] at e9
        have hP2 := ri_P_ext (g := fun j => ri_gI (ri_cv ρ sa ad (ri_look d0 o0 j))) hP1 (fun j hj => by
          unfold va_cpy
          rw [if_pos ⟨Nat.zero_le _, by show j < 0 + _; omega⟩]
          show ri_gI (ri_cv ρ sa ad (ri_look d0 o0 (0 + (j - 0)))) = _
          rw [Nat.zero_add, Nat.sub_zero])
        have hD2 : va_D A ((ri_w ρ sa (ri_aty G) tyc ad mem).set k1 (ad k1, .inl (tyc t1, n.toNatClampNeg, .inl (fun j => ri_gI (ri_cv ρ sa ad (ri_look d0 o0 j)))))) := by
          exact va_D.set hD hw1
        rw [e9] at hP2 hD2
        have hokc := hok _ (List.mem_of_getElem? hm0)
        refine kk ad H1 locs1 ri_ag_rf hP2 hD2 hS1 ?_ ?_ ?_
        · show ri_okM (mem.set k1 _).length _
          rw [List.length_set]
          exact ri_okM_set hok hokc
        · show mem.length ≤ (mem.set k1 _).length
          rw [List.length_set]; exact Nat.le_refl _
        · intro z hz
          show ri_ok (mem.set k1 _).length z
          rw [List.length_set]
          exact hst z (List.mem_cons_of_mem _ (List.mem_cons_of_mem _ (List.mem_cons_of_mem _ (List.mem_cons_of_mem _ (List.mem_cons_of_mem _ hz)))))
      · cases h
    · cases h
  · cases h
end RIW1
end RIW
