section
/-! RI: the instructions that touch the heap are sound -/
section RIW
def ri_tys (aty : List FieldType) (tyc : Nat → ClassId) : List (ClassId × FieldType) := aty.mapIdx (fun j ty => (tyc j, ty))
theorem ri_tys_get {aty : List FieldType} {tyc : Nat → ClassId} {j : Nat} {ty : FieldType} (h : aty[j]? = some ty) : (ri_tys aty tyc)[j]? = some (tyc j, ty) := by
  unfold ri_tys
  rw [List.getElem?_mapIdx, h]
  rfl
def ri_obs (ρ : Nat → Int32) (o : ri_Ob) : Prop := (∀ q ∈ o.1, ri_sat ρ q) → vp_in (ri_iv ρ o.2.1) o.2.2
/-- a constructor that hands its text on by its link 13 -/
def ri_rx : ByteArray := ⟨#[0x2a, 0x2b, 0xb7, 0x00, 0x0d, 0xb1]⟩
theorem ri_rx0 : decode ri_rx 0 = .ok (.aload_n 0, 1) := by decide +kernel
theorem ri_rx1 : decode ri_rx 1 = .ok (.aload_n 1, 1) := by decide +kernel
theorem ri_rx2 : decode ri_rx 2 = .ok (.invokespecial 13, 3) := by decide +kernel
theorem ri_rx5 : decode ri_rx 5 = .ok (.return_, 1) := by decide +kernel
def ri_link (ALL : List Jvm.Cond) (STR : List (String × Nat × String)) (G : ri_Tb) (own : String) (idx : Nat) (q : ri_Lk) : Prop := match q with
  | (0, a, b, _) => ∃ (C : String) (T : u_T) (N : Nat), (ri_cls G)[a]? = some (C, T, N) ∧ b < N ∧ Jvm.Cond.fieldLink own idx (T b).1 (T b).2.1 (T b).2.2.1 ∈ ALL
  | (1, a, b, tx) => ∃ (C : String) (T : u_T) (N : Nat), (ri_cls G)[a]? = some (C, T, N) ∧ b < N ∧ Jvm.Cond.fieldLinkNest own idx (T b).1 (T b).2.1 (T b).2.2.1 tx ∈ ALL
  | (4, a, _, _) => ∃ (C : String) (T : u_T) (N : Nat), (ri_cls G)[a]? = some (C, T, N) ∧ Jvm.Cond.classLink own idx C ∈ ALL ∧ Jvm.Cond.instantiable C N ∈ ALL ∧ Jvm.Cond.initialized C ∈ ALL
  | (6, a, _, _) => ∃ C, (ri_aty G)[a]? = some (.object C) ∧ Jvm.Cond.classLink own (idx - 100000) C ∈ ALL ∧ Jvm.Cond.arrayOver (.object C) ∈ ALL
  | (8, a, b, _) => Jvm.Cond.constant own idx (Int32.ofNat a - Int32.ofNat b) ∈ ALL
  | (5, _, _, E) => Jvm.Cond.classLink own idx E ∈ ALL ∧ Jvm.Cond.initialized E ∈ ALL ∧ Bundle.fit E = true
  | (9, _, _, tx) => (own, idx, tx) ∈ STR
  | (14, a, b, _) => Jvm.Cond.constantLong own idx (Int64.ofNat a - Int64.ofNat b) ∈ ALL
  | (13, _, _, E) => ∃ names : List String, names.length ≤ 2 ∧ (∀ n ∈ names, Bundle.fit n = true) ∧ ∀ w ∈ vx_atS own idx E names, w ∈ ALL ∧ vx_ot w = true
  | (15, _, _, E) => ∀ w ∈ ri_atX own idx E 13 ri_rx "java/lang/RuntimeException" ["java/lang/Exception"], w ∈ ALL ∧ vx_ot w = true
  | (20, mi, n, _) => ∃ M2, (ri_mts G)[mi]? = some M2 ∧ (parseMethodDescriptor (ri_nm M2).desc).map (fun d => d.parameters.length) = some n ∧ Jvm.Cond.methodLink own idx (ri_nm M2) ∈ ALL ∧ Jvm.Cond.instanceMethod (ri_nm M2) ∈ ALL ∧ Jvm.Cond.selects (ri_nm M2).cls (ri_nm M2) (ri_nm M2) ∈ ALL
  | (21, mi, n, _) => ∃ M2, (ri_mts G)[mi]? = some M2 ∧ (parseMethodDescriptor (ri_nm M2).desc).map (fun d => d.parameters.length) = some n ∧ Jvm.Cond.methodLink own idx (ri_nm M2) ∈ ALL ∧ Jvm.Cond.static (ri_nm M2) ∈ ALL
  | (22, mi, n, _) => ∃ M2, (ri_mts G)[mi]? = some M2 ∧ (parseMethodDescriptor (ri_nm M2).desc).map (fun d => d.parameters.length) = some n ∧ Jvm.Cond.methodLink own idx (ri_nm M2) ∈ ALL ∧ Jvm.Cond.instanceMethod (ri_nm M2) ∈ ALL ∧ (ri_nm M2).name = "<init>" ∧ ri_rt M2 = none
  | (30, mi, n, tx) => ∃ M2, (ri_mts G)[mi]? = some M2 ∧ (parseMethodDescriptor (ri_nm M2).desc).map (fun d => d.parameters.length) = some n ∧ Jvm.Cond.methodLinkNest own idx (ri_nm M2) tx ∈ ALL ∧ Jvm.Cond.instanceMethod (ri_nm M2) ∈ ALL ∧ Jvm.Cond.selects (ri_nm M2).cls (ri_nm M2) (ri_nm M2) ∈ ALL
  | (31, mi, n, tx) => ∃ M2, (ri_mts G)[mi]? = some M2 ∧ (parseMethodDescriptor (ri_nm M2).desc).map (fun d => d.parameters.length) = some n ∧ Jvm.Cond.methodLinkNest own idx (ri_nm M2) tx ∈ ALL ∧ Jvm.Cond.static (ri_nm M2) ∈ ALL
  | (32, mi, n, tx) => ∃ M2, (ri_mts G)[mi]? = some M2 ∧ (parseMethodDescriptor (ri_nm M2).desc).map (fun d => d.parameters.length) = some n ∧ Jvm.Cond.methodLinkNest own idx (ri_nm M2) tx ∈ ALL ∧ Jvm.Cond.instanceMethod (ri_nm M2) ∈ ALL ∧ (ri_nm M2).name = "<init>" ∧ ri_rt M2 = none
  | (7, _, _, _) => Jvm.Cond.methodLink own idx objectInit ∈ ALL ∧ Jvm.Cond.instanceMethod objectInit ∈ ALL ∧ Jvm.Cond.code objectInit ⟨#[0xb1]⟩ 1 none ∈ ALL
  | (10, _, _, _) => Jvm.Cond.methodLink own idx Lib.Math.max.name ∈ ALL ∧ Jvm.Cond.static Lib.Math.max.name ∈ ALL ∧ Jvm.Cond.initialized "java/lang/Math" ∈ ALL ∧ Jvm.Cond.code Lib.Math.max.name Lib.Math.max.code 2 (some .int) ∈ ALL
  | (11, _, _, _) => Jvm.Cond.methodLink own idx Lib.Math.min.name ∈ ALL ∧ Jvm.Cond.static Lib.Math.min.name ∈ ALL ∧ Jvm.Cond.initialized "java/lang/Math" ∈ ALL ∧ Jvm.Cond.code Lib.Math.min.name Lib.Math.min.code 2 (some .int) ∈ ALL
  | (12, _, _, _) => Jvm.Cond.methodLink own idx arraycopyName ∈ ALL ∧ Jvm.Cond.native arraycopyName ∈ ALL ∧ Jvm.Cond.static arraycopyName ∈ ALL ∧ Jvm.Cond.initialized "java/lang/System" ∈ ALL
  | (16, _, _, _) => Jvm.Cond.methodLink own idx sx_y7 ∈ ALL ∧ ∀ w ∈ sx_W, w ∈ ALL
  | (17, _, _, _) => Jvm.Cond.methodLink own idx sx_y6 ∈ ALL ∧ ∀ w ∈ sx_W, w ∈ ALL
  | _ => True
def ri_clOK (ALL : List Jvm.Cond) (G : ri_Tb) : Prop := ∀ (ci : Nat) (C : String) (T : u_T) (N : Nat), (ri_cls G)[ci]? = some (C, T, N) → ∃ tys : List FieldType, (ri_fts G)[ci]? = some tys ∧ tys.length = N ∧ (∀ k, k < N → parseFieldDescriptor (T k).2.2.1 = tys[k]?) ∧ (∀ a, a < N → ∀ b, b < N → a ≠ b → (T a).2.1 ≠ (T b).2.1) ∧ ∀ w ∈ u_ws C T N, w ∈ ALL
def ri_lkOK (ALL : List Jvm.Cond) (STR : List (String × Nat × String)) (G : ri_Tb) : Prop := ∀ M ∈ ri_mts G, ∀ q ∈ (ri_cps G).getD (ri_pn M) [], ri_link ALL STR G (ri_own M) q.1 q.2
/-- the links of one method hold -/
def ri_lkM (ALL : List Jvm.Cond) (STR : List (String × Nat × String)) (G : ri_Tb) (M : ri_Mt) : Prop := ∀ q ∈ (ri_cps G).getD (ri_pn M) [], ri_link ALL STR G (ri_own M) q.1 q.2
theorem ri_cp_s {ALL : List Jvm.Cond} {STR : List (String × Nat × String)} {G : ri_Tb} {M : ri_Mt} {idx : Nat} {q : ri_Lk} (_ : ri_lkOK ALL STR G) (hM : ri_lkM ALL STR G M) (h : ri_cp G M idx = some q) : ri_link ALL STR G (ri_own M) idx q := by
  unfold ri_cp at h
  obtain ⟨z, hz, rfl⟩ := Option.map_eq_some_iff.mp h
  have h1 := hM z (List.mem_of_find?_eq_some hz)
  have h2 : z.1 = idx := by simpa using List.find?_some hz
  rw [← h2]
  exact h1
/-- what holds of a method that is walked -/
def ri_Ctx (ALL : List Jvm.Cond) (STR : List (String × Nat × String)) (sa : String → Nat → Nat) (G : ri_Tb) (M : ri_Mt) (D : va_G) (tyc : Nat → ClassId) (A : Nat → Prop) (p : Program) (s : State) (m : MethodId) (args : Array Value) (meth : Method) (c : Code) : Prop :=
  (p.tables.exec = Jvm.exec ∧ c.code = ri_by M ∧ c.maxLocals = ri_mx M ∧ s.vm.findClass (ri_own M) = some m.cls ∧ ((ri_nm M).name = "<init>" → meth.name = "<init>")) ∧ ri_lkM ALL STR G M ∧ ri_clOK ALL G ∧ ri_lkOK ALL STR G ∧ (∀ w ∈ ALL, w.before args s = true) ∧ va_K D (ri_cls G) (ri_tys (ri_aty G) tyc) s ∧ (∀ q, s.heap.size ≤ q → A q) ∧ (∀ q ∈ STR, vk_R q.1 q.2.1 q.2.2 (sa q.1 q.2.1) s)
section RIW1
variable {p : Program} {l : Launch} {e : Env} {R : Room} {s : State} {m : MethodId} {args : Array Value} {below : List Frame} {meth : Method} {c : Code} {H : Heap} {locs : List Loc} {cells slots : Nat} {Q : State → Prop}
variable {ALL : List Jvm.Cond} {STR : List (String × Nat × String)} {G : ri_Tb} {M : ri_Mt} {D : va_G} {tyc : Nat → ClassId} {A : Nat → Prop}
variable {ρ : Nat → Int32} {sa : String → Nat → Nat} {ad : Nat → Nat} {st : List Jvm.Term} {mem : ri_Me} {pc idx : Nat} {ls : Array Slot} {cs : List ri_Cd} {x : ri_H1}
/-- where the walk goes on -/
def ri_KK (p : Program) (l : Launch) (e : Env) (R : Room) (s : State) (m : MethodId) (args : Array Value) (below : List Frame) (meth : Method) (c : Code) (cells slots : Nat) (Q : State → Prop) (G : ri_Tb) (D : va_G) (tyc : Nat → ClassId) (A : Nat → Prop) (ρ : Nat → Int32) (sa : String → Nat → Nat) (ad : Nat → Nat) (mem : ri_Me) (ls : Array Slot) (pc : Nat) (x : ri_H1) : Prop :=
  ∀ (ad' : Nat → Nat) (H' : Heap) (locs' : List Loc), ri_ag mem.length ad ad' → va_P D (ri_cls G) (ri_w ρ sa (ri_aty G) tyc ad' x.2.2.1) H' → va_D A (ri_w ρ sa (ri_aty G) tyc ad' x.2.2.1) → va_S A s.heap H' locs' → ri_okM x.2.2.1.length x.2.2.1 → mem.length ≤ x.2.2.1.length → (∀ t ∈ x.2.1, ri_ok x.2.2.1.length t) →
    W p l e R s m args below meth c H' locs' (cells + x.2.2.2.1) (slots + x.2.2.2.2.1) Q (F0 m (pc + x.1) ls (x.2.1.map (ri_cv ρ sa ad')))
theorem ri_getf_W (hC : ri_Ctx ALL STR sa G M D tyc A p s m args meth c) (h : ri_getf G M idx st mem = some x) (hd : decode (ri_by M) pc = .ok (.getfield idx, x.1)) (hP : va_P D (ri_cls G) (ri_w ρ sa (ri_aty G) tyc ad mem) H) (hD : va_D A (ri_w ρ sa (ri_aty G) tyc ad mem)) (hS : va_S A s.heap H locs) (hok : ri_okM mem.length mem) (hst : ∀ t ∈ st, ri_ok mem.length t)
    (kk : ri_KK p l e R s m args below meth c cells slots Q G D tyc A ρ sa ad mem ls pc x) : W p l e R s m args below meth c H locs cells slots Q (F0 m pc ls (st.map (ri_cv ρ sa ad))) := by
  obtain ⟨⟨hx, hb, hml, hown, hin⟩, hM, hcl, hlk, hts, hK, hA, hstr⟩ := hC
  unfold ri_getf at h
  split at h
  · next kd ci j tx k r hcp =>
    split at h
    · next ci2 fs hm =>
      split at h
      · next t ht =>
        split at h
        · next hk =>
          cases h
          obtain ⟨hk1, rfl⟩ := hk
          have hlink := ri_cp_s hlk hM hcp
          have k1 := kk ad H locs ri_ag_rf hP hD hS hok (Nat.le_refl _) (fun z hz => by
            rcases List.mem_cons.mp hz with rfl | hz
            · exact hok _ (List.mem_of_getElem? hm) _ (List.mem_of_getElem? ht)
            · exact hst z (List.mem_cons_of_mem _ hz))
          have hv : (fs.map (ri_cv ρ sa ad))[j]? = some (ri_cv ρ sa ad t) := by rw [List.getElem?_map, ht]; rfl
          match kd, hk1, hlink with
          | 0, _, hlink =>
            obtain ⟨C, T, N, h1, h2, h3⟩ := hlink
            obtain ⟨tys, -, -, -, -, hin2⟩ := hcl _ _ _ _ h1
            exact va_get (Ts := ALL) hx hb hts hin2 hown hK hP k (ri_w_get hm) h1 j h2 (hts _ h3) (fun _ h9 => h9) hv hd k1
          | 1, _, hlink =>
            obtain ⟨C, T, N, h1, h2, h3⟩ := hlink
            obtain ⟨tys, -, -, -, -, hin2⟩ := hcl _ _ _ _ h1
            exact va_getN (Ts := ALL) hx hb hts hin2 hown hK hP k (ri_w_get hm) h1 j h2 (hts _ h3) (fun _ h9 => h9) hv hd k1
        · cases h
      · cases h
    · cases h
  · cases h
theorem ri_putf_W (hC : ri_Ctx ALL STR sa G M D tyc A p s m args meth c) (h : ri_putf G M idx st mem = some x) (hd : decode (ri_by M) pc = .ok (.putfield idx, x.1)) (hP : va_P D (ri_cls G) (ri_w ρ sa (ri_aty G) tyc ad mem) H) (hD : va_D A (ri_w ρ sa (ri_aty G) tyc ad mem)) (hS : va_S A s.heap H locs) (hok : ri_okM mem.length mem) (hst : ∀ t ∈ st, ri_ok mem.length t)
    (kk : ri_KK p l e R s m args below meth c cells slots Q G D tyc A ρ sa ad mem ls pc x) : W p l e R s m args below meth c H locs cells slots Q (F0 m pc ls (st.map (ri_cv ρ sa ad))) := by
  obtain ⟨⟨hx, hb, hml, hown, hin⟩, hM, hcl, hlk, hts, hK, hA, hstr⟩ := hC
  unfold ri_putf at h
  split at h
  · next kd ci j tx t k r hcp =>
    split at h
    · next ci2 fs C T N ty hm hc1 hty =>
      split at h
      · next hk =>
        cases h
        obtain ⟨hk1, rfl, hl, hfit, hfin⟩ := hk
        have hlink := ri_cp_s hlk hM hcp
        obtain ⟨hn, hf⟩ := ri_fit_s (ρ := ρ) (sa := sa) (ad := ad) hfit
        have ht : ri_ok mem.length t := hst t List.mem_cons_self
        obtain ⟨tys, q1, q2, q3, q4, q5⟩ := hcl _ _ _ _ hc1
        have kA : ∀ (H1 : Heap) (locs1 : List Loc), va_P D (ri_cls G) ((ri_w ρ sa (ri_aty G) tyc ad mem).set k (ad k, .inr (ci2, (fs.map (ri_cv ρ sa ad)).set j (ri_cv ρ sa ad t)))) H1 → va_D A ((ri_w ρ sa (ri_aty G) tyc ad mem).set k (ad k, .inr (ci2, (fs.map (ri_cv ρ sa ad)).set j (ri_cv ρ sa ad t)))) → va_S A s.heap H1 locs1 → W p l e R s m args below meth c H1 locs1 cells slots Q (F0 m (pc + 3) ls (r.map (ri_cv ρ sa ad))) := by
          intro H1 locs1 hP1 hD1 hS1
          rw [ri_map_set] at hP1 hD1
          have e9 := ri_w_set (ρ := ρ) (sa := sa) (aty := ri_aty G) (tyc := tyc) (ad := ad) (mem := mem) (k := k) (e := .inl (ci2, fs.set j t))
          simp only [ri_ce] at e9
          rw [e9] at hP1 hD1
          refine kk ad H1 locs1 ri_ag_rf hP1 hD1 hS1 ?_ ?_ ?_
          · show ri_okM (mem.set k _).length _
            rw [List.length_set]
            exact ri_okM_set hok (ri_ok_set (hok _ (List.mem_of_getElem? hm)) ht)
          · show mem.length ≤ (mem.set k _).length
            rw [List.length_set]; exact Nat.le_refl _
          · intro z hz
            show ri_ok (mem.set k _).length z
            rw [List.length_set]
            exact hst z (List.mem_cons_of_mem _ (List.mem_cons_of_mem _ hz))
        have hlm : j < (fs.map (ri_cv ρ sa ad)).length := by rw [List.length_map]; exact hl
        have hdt : (ri_fts G).getD ci2 [] = tys := by rw [List.getD_eq_getElem?_getD, q1]; rfl
        rw [hdt] at hty
        have hty0 : ∀ k, k < N → parseFieldDescriptor (T k).2.2.1 = some (tys.getD k .int) := fun k hk => by
          rw [q3 k hk, List.getD_eq_getElem?_getD]
          rw [← q2] at hk
          rw [List.getElem?_eq_getElem hk]; rfl
        match kd, hk1, hlink, hfin with
        | 0, _, hlink, hfin =>
          obtain ⟨C2, T2, N2, h1, h2, h3⟩ := hlink
          rw [hc1] at h1
          cases h1
          have hpd : parseFieldDescriptor (T j).2.2.1 = some ty := by rw [q3 j h2]; exact hty
          rcases hfin with hfin | ⟨-, hi, hde⟩
          · exact va_put (Ts := ALL) hx hb hts q5 _ hty0 q4 hown hK hP hD hS k (ri_w_get hm) hc1 j h2 (hts _ h3) (fun _ h9 => h9) hfin hpd hn hf hlm hd kA
          · by_cases hfin : (T j).2.2.2 = true
            · exact va_putF (Ts := ALL) hx hb hts q5 _ hty0 q4 hown hK hP hD hS k (ri_w_get hm) hc1 j h2 (hts _ h3) (fun _ h9 => h9) hfin (hin hi) hde hpd hn hf hlm hd kA
            · exact va_put (Ts := ALL) hx hb hts q5 _ hty0 q4 hown hK hP hD hS k (ri_w_get hm) hc1 j h2 (hts _ h3) (fun _ h9 => h9) (by simpa using hfin) hpd hn hf hlm hd kA
        | 1, _, hlink, hfin =>
          obtain ⟨C2, T2, N2, h1, h2, h3⟩ := hlink
          rw [hc1] at h1
          cases h1
          have hpd : parseFieldDescriptor (T j).2.2.1 = some ty := by rw [q3 j h2]; exact hty
          rcases hfin with hfin | ⟨h0, -⟩
          · exact va_putN (Ts := ALL) hx hb hts q5 _ hty0 q4 hown hK hP hD hS k (ri_w_get hm) hc1 j h2 (hts _ h3) (fun _ h9 => h9) hfin hpd hn hf hlm hd kA
          · cases h0
      · cases h
    · cases h
  · cases h
theorem ri_ce_int {ty n : Nat} {d : Jvm.Term} {ov : List (Nat × Jvm.Term)} (h : (ri_aty G)[ty]? = some .int) : ri_ce ρ sa (ri_aty G) tyc ad (.inr (ty, n, d, ov)) = .inl (tyc ty, n, .inl (fun j => ri_gI (ri_cv ρ sa ad (ri_look d ov j)))) := by
  simp only [ri_ce]
  rw [h]
  rfl
theorem ri_ce_ref {ty n : Nat} {C : String} {d : Jvm.Term} {ov : List (Nat × Jvm.Term)} (h : (ri_aty G)[ty]? = some (.object C)) : ri_ce ρ sa (ri_aty G) tyc ad (.inr (ty, n, d, ov)) = .inl (tyc ty, n, .inr (.inr (.inr (.inr (fun j => ri_gR (ri_cv ρ sa ad (ri_look d ov j))))))) := by
  simp only [ri_ce]
  rw [h]
  rfl
theorem ri_all_cons0 {n : Nat} {t : Jvm.Term} {st : List Jvm.Term} (h : ri_ok n t) (hs : ∀ z ∈ st, ri_ok n z) : ∀ z ∈ t :: st, ri_ok n z := fun z hz => by
  rcases List.mem_cons.mp hz with rfl | hz
  · exact h
  · exact hs z hz
/-- an index in range, by its bounds -/
theorem ri_in_s {i : Jvm.Term} {n : Nat} (hsat : ∀ q ∈ cs, ri_sat ρ q) (hk : ri_k i = 0) (h1 : 0 ≤ (ri_bd cs i).1) (h2 : (ri_bd cs i).2 < (n : Int)) : vp_in (ri_iv ρ i) n := by
  obtain ⟨b1, b2⟩ := (ri_bd_s hsat i).1 hk
  intro h
  rcases h with h | h
  · rw [Int32.lt_iff_toInt_lt] at h
    have e : (0 : Int32).toInt = 0 := by decide
    omega
  · have e : ((ri_iv ρ i).toNatClampNeg : Int) = (ri_iv ρ i).toInt := by
      show (((ri_iv ρ i).toInt.toNat : Nat) : Int) = _
      omega
    omega
/-- the facts of the script -/
def ri_hsc (G : ri_Tb) (M : ri_Mt) (sa : String → Nat → Nat) (A : Nat → Prop) (s : State) : Prop := ri_lw M = true → va_X (sa "" 0) (ri_sn G) (ri_sf G) s s.heap ∧ sa "" 0 < s.heap.size ∧ ¬ A (sa "" 0)
theorem ri_sld_W (hsc : ri_hsc G M sa A s) (hC : ri_Ctx ALL STR sa G M D tyc A p s m args meth c) (h : ri_sld G M st mem = some x) (hd : decode (ri_by M) pc = .ok (.iaload, x.1)) (hP : va_P D (ri_cls G) (ri_w ρ sa (ri_aty G) tyc ad mem) H) (hD : va_D A (ri_w ρ sa (ri_aty G) tyc ad mem)) (hS : va_S A s.heap H locs) (hok : ri_okM mem.length mem) (hst : ∀ t ∈ st, ri_ok mem.length t)
    (kk : ri_KK p l e R s m args below meth c cells slots Q G D tyc A ρ sa ad mem ls pc x) : W p l e R s m args below meth c H locs cells slots Q (F0 m pc ls (st.map (ri_cv ρ sa ad))) := by
  obtain ⟨⟨hx, hb, hml, hown, hin⟩, hM, hcl, hlk, hts, hK, hA, hstr⟩ := hC
  unfold ri_sld at h
  split at h
  · next i tx k r =>
    split at h
    · next j hj =>
      split at h
      · next hk =>
        cases h
        obtain ⟨hl, rfl, rfl⟩ := hk
        obtain ⟨s1, s2, s3⟩ := hsc hl
        obtain ⟨v, rfl, hv, hvj, hjn⟩ := ri_ix_s hj
        have k1 := kk ad H locs ri_ag_rf hP hD hS hok (Nat.le_refl _) (ri_all_cons0 trivial (fun z hz => hst z (List.mem_cons_of_mem _ (List.mem_cons_of_mem _ hz))))
        rw [List.map_cons, ← hvj] at k1
        exact va_sld hx hb s1 s2 s3 hS hv hd k1
      · cases h
    · cases h
  · cases h
theorem ri_slen_W (hsc : ri_hsc G M sa A s) (hC : ri_Ctx ALL STR sa G M D tyc A p s m args meth c) (h : ri_slen G M st mem = some x) (hd : decode (ri_by M) pc = .ok (.arraylength, x.1)) (hP : va_P D (ri_cls G) (ri_w ρ sa (ri_aty G) tyc ad mem) H) (hD : va_D A (ri_w ρ sa (ri_aty G) tyc ad mem)) (hS : va_S A s.heap H locs) (hok : ri_okM mem.length mem) (hst : ∀ t ∈ st, ri_ok mem.length t)
    (kk : ri_KK p l e R s m args below meth c cells slots Q G D tyc A ρ sa ad mem ls pc x) : W p l e R s m args below meth c H locs cells slots Q (F0 m pc ls (st.map (ri_cv ρ sa ad))) := by
  obtain ⟨⟨hx, hb, hml, hown, hin⟩, hM, hcl, hlk, hts, hK, hA, hstr⟩ := hC
  unfold ri_slen at h
  split at h
  · next tx k r =>
    split at h
    · next hk =>
      cases h
      obtain ⟨hl, rfl, rfl⟩ := hk
      obtain ⟨s1, s2, s3⟩ := hsc hl
      have k1 := kk ad H locs ri_ag_rf hP hD hS hok (Nat.le_refl _) (ri_all_cons0 trivial (fun z hz => hst z (List.mem_cons_of_mem _ hz)))
      exact va_slen hx hb s1 s2 s3 hS hd k1
    · cases h
  · cases h
theorem ri_iald_W (hC : ri_Ctx ALL STR sa G M D tyc A p s m args meth c) (h : ri_iald G cs st mem = some x) (hd : decode (ri_by M) pc = .ok (.iaload, x.1)) (hP : va_P D (ri_cls G) (ri_w ρ sa (ri_aty G) tyc ad mem) H) (hD : va_D A (ri_w ρ sa (ri_aty G) tyc ad mem)) (hS : va_S A s.heap H locs) (hok : ri_okM mem.length mem) (hst : ∀ t ∈ st, ri_ok mem.length t)
    (hsat : ∀ q ∈ cs, ri_sat ρ q) (hob : ∀ o ∈ x.2.2.2.2.2, ri_obs ρ o)
    (kk : ri_KK p l e R s m args below meth c cells slots Q G D tyc A ρ sa ad mem ls pc x) : W p l e R s m args below meth c H locs cells slots Q (F0 m pc ls (st.map (ri_cv ρ sa ad))) := by
  obtain ⟨⟨hx, hb, hml, hown, hin⟩, hM, hcl, hlk, hts, hK, hA, hstr⟩ := hC
  unfold ri_iald at h
  split at h
  · next i k r =>
    split at h
    · next ty n d ov hm =>
      split at h
      · next hty =>
        have hw := ri_w_get (ρ := ρ) (sa := sa) (aty := ri_aty G) (tyc := tyc) (ad := ad) hm
        rw [ri_ce_int hty] at hw
        have hokc := hok _ (List.mem_of_getElem? hm)
        split at h
        · next j hj =>
          split at h
          · next hk0 =>
            cases h
            obtain ⟨v, rfl, hv, hvj, hjn⟩ := ri_ix_s hj
            have k1 := kk ad H locs ri_ag_rf hP hD hS hok (Nat.le_refl _) (fun z hz => by
              rcases List.mem_cons.mp hz with rfl | hz
              · exact ri_look_ok hokc.1 hokc.2
              · exact hst z (List.mem_cons_of_mem _ (List.mem_cons_of_mem _ hz)))
            rw [List.map_cons, ri_I hk0, ← hvj] at k1
            exact va_iald hx hb hK hP k ty hw (ri_tys_get hty) hv hd k1
          · cases h
        · next hj =>
          split at h
          · split at h
            · next hk0 =>
              cases h
              obtain ⟨hk0, hk1, hb1, hb2⟩ := hk0
              have k1 := kk ad H locs ri_ag_rf hP hD hS hok (Nat.le_refl _) (fun z hz => by
                rcases List.mem_cons.mp hz with rfl | hz
                · exact hokc.1
                · exact hst z (List.mem_cons_of_mem _ (List.mem_cons_of_mem _ hz)))
              have hv := ri_in_s hsat hk0 hb1 hb2
              rw [List.map_cons, ri_I hk1] at k1
              rw [List.map_cons, List.map_cons, ri_ivI hk0]
              exact va_iald hx hb hK hP k ty hw (ri_tys_get hty) hv hd k1
            · cases h
          · cases h
      · cases h
    · cases h
  · cases h
theorem ri_iast_W (hC : ri_Ctx ALL STR sa G M D tyc A p s m args meth c) (h : ri_iast G st mem = some x) (hd : decode (ri_by M) pc = .ok (.iastore, x.1)) (hP : va_P D (ri_cls G) (ri_w ρ sa (ri_aty G) tyc ad mem) H) (hD : va_D A (ri_w ρ sa (ri_aty G) tyc ad mem)) (hS : va_S A s.heap H locs) (hok : ri_okM mem.length mem) (hst : ∀ t ∈ st, ri_ok mem.length t)
    (kk : ri_KK p l e R s m args below meth c cells slots Q G D tyc A ρ sa ad mem ls pc x) : W p l e R s m args below meth c H locs cells slots Q (F0 m pc ls (st.map (ri_cv ρ sa ad))) := by
  obtain ⟨⟨hx, hb, hml, hown, hin⟩, hM, hcl, hlk, hts, hK, hA, hstr⟩ := hC
  unfold ri_iast at h
  split at h
  · next t i k r =>
    split at h
    · next ty n d ov hm =>
      split at h
      · next j hj =>
        split at h
        · next hk0 =>
          cases h
          obtain ⟨hty, hk0⟩ := hk0
          have hw := ri_w_get (ρ := ρ) (sa := sa) (aty := ri_aty G) (tyc := tyc) (ad := ad) hm
          rw [ri_ce_int hty] at hw
          have hokc := hok _ (List.mem_of_getElem? hm)
          obtain ⟨v, rfl, hv, hvj, hjn⟩ := ri_ix_s hj
          rw [List.map_cons, ri_I hk0]
          refine va_iast hx hb hK hP hD hS k ty hw (ri_tys_get hty) hv hd (fun H1 locs1 hP1 hD1 hS1 => ?_)
          have e8 : upd (fun j => ri_gI (ri_cv ρ sa ad (ri_look d ov j))) v.toNatClampNeg (ri_gI (ri_cv ρ sa ad t)) = fun i => ri_gI (ri_cv ρ sa ad (ri_look d (ri_put d ov j t) i)) := by
            funext i
            rw [ri_put_cv, hvj]
            unfold upd
            split <;> rfl
          have e9 := ri_w_set (ρ := ρ) (sa := sa) (aty := ri_aty G) (tyc := tyc) (ad := ad) (mem := mem) (k := k) (e := .inr (ty, n, d, ri_put d ov j t))
          rw [ri_ce_int hty] at e9
          rw [e8, e9] at hP1 hD1
          refine kk ad H1 locs1 ri_ag_rf hP1 hD1 hS1 ?_ ?_ ?_
          · show ri_okM (mem.set k _).length _
            rw [List.length_set]
            exact ri_okM_set hok ⟨hokc.1, ri_put_ok (hst t List.mem_cons_self) hokc.2⟩
          · show mem.length ≤ (mem.set k _).length
            rw [List.length_set]; exact Nat.le_refl _
          · intro z hz
            show ri_ok (mem.set k _).length z
            rw [List.length_set]
            exact hst z (List.mem_cons_of_mem _ (List.mem_cons_of_mem _ (List.mem_cons_of_mem _ hz)))
        · cases h
      · cases h
    · cases h
  · cases h
theorem ri_ce_long {ty n : Nat} {d : Jvm.Term} {ov : List (Nat × Jvm.Term)} (h : (ri_aty G)[ty]? = some .long) : ri_ce ρ sa (ri_aty G) tyc ad (.inr (ty, n, d, ov)) = .inl (tyc ty, n, .inr (.inl (fun j => ri_gL (ri_cv ρ sa ad (ri_look d ov j))))) := by
  simp only [ri_ce]
  rw [h]
  rfl
theorem ri_lald_W (hC : ri_Ctx ALL STR sa G M D tyc A p s m args meth c) (h : ri_lald G st mem = some x) (hd : decode (ri_by M) pc = .ok (.laload, x.1)) (hP : va_P D (ri_cls G) (ri_w ρ sa (ri_aty G) tyc ad mem) H) (hD : va_D A (ri_w ρ sa (ri_aty G) tyc ad mem)) (hS : va_S A s.heap H locs) (hok : ri_okM mem.length mem) (hst : ∀ t ∈ st, ri_ok mem.length t)
    (kk : ri_KK p l e R s m args below meth c cells slots Q G D tyc A ρ sa ad mem ls pc x) : W p l e R s m args below meth c H locs cells slots Q (F0 m pc ls (st.map (ri_cv ρ sa ad))) := by
  obtain ⟨⟨hx, hb, hml, hown, hin⟩, hM, hcl, hlk, hts, hK, hA, hstr⟩ := hC
  unfold ri_lald at h
  split at h
  · next i k r =>
    split at h
    · next ty n d ov hm =>
      split at h
      · next j hj =>
        split at h
        · next hk0 =>
          cases h
          obtain ⟨hty, hk0⟩ := hk0
          have hw := ri_w_get (ρ := ρ) (sa := sa) (aty := ri_aty G) (tyc := tyc) (ad := ad) hm
          rw [ri_ce_long hty] at hw
          have hokc := hok _ (List.mem_of_getElem? hm)
          obtain ⟨v, rfl, hv, hvj, hjn⟩ := ri_ix_s hj
          have k1 := kk ad H locs ri_ag_rf hP hD hS hok (Nat.le_refl _) (fun z hz => by
            rcases List.mem_cons.mp hz with rfl | hz
            · exact ri_look_ok hokc.1 hokc.2
            · exact hst z (List.mem_cons_of_mem _ (List.mem_cons_of_mem _ hz)))
          rw [List.map_cons, ri_L hk0, ← hvj] at k1
          exact va_lald hx hb hK hP k ty hw (ri_tys_get hty) hv hd k1
        · cases h
      · cases h
    · cases h
  · cases h
theorem ri_last_W (hC : ri_Ctx ALL STR sa G M D tyc A p s m args meth c) (h : ri_last G st mem = some x) (hd : decode (ri_by M) pc = .ok (.lastore, x.1)) (hP : va_P D (ri_cls G) (ri_w ρ sa (ri_aty G) tyc ad mem) H) (hD : va_D A (ri_w ρ sa (ri_aty G) tyc ad mem)) (hS : va_S A s.heap H locs) (hok : ri_okM mem.length mem) (hst : ∀ t ∈ st, ri_ok mem.length t)
    (kk : ri_KK p l e R s m args below meth c cells slots Q G D tyc A ρ sa ad mem ls pc x) : W p l e R s m args below meth c H locs cells slots Q (F0 m pc ls (st.map (ri_cv ρ sa ad))) := by
  obtain ⟨⟨hx, hb, hml, hown, hin⟩, hM, hcl, hlk, hts, hK, hA, hstr⟩ := hC
  unfold ri_last at h
  split at h
  · next t i k r =>
    split at h
    · next ty n d ov hm =>
      split at h
      · next j hj =>
        split at h
        · next hk0 =>
          cases h
          obtain ⟨hty, hk0⟩ := hk0
          have hw := ri_w_get (ρ := ρ) (sa := sa) (aty := ri_aty G) (tyc := tyc) (ad := ad) hm
          rw [ri_ce_long hty] at hw
          have hokc := hok _ (List.mem_of_getElem? hm)
          obtain ⟨v, rfl, hv, hvj, hjn⟩ := ri_ix_s hj
          rw [List.map_cons, ri_L hk0]
          refine va_last hx hb hK hP hD hS k ty hw (ri_tys_get hty) hv hd (fun H1 locs1 hP1 hD1 hS1 => ?_)
          have e8 : vp_updL (fun j => ri_gL (ri_cv ρ sa ad (ri_look d ov j))) v.toNatClampNeg (ri_gL (ri_cv ρ sa ad t)) = fun i => ri_gL (ri_cv ρ sa ad (ri_look d (ri_put d ov j t) i)) := by
            funext i
            rw [ri_put_cv, hvj]
            unfold vp_updL
            split <;> rfl
          have e9 := ri_w_set (ρ := ρ) (sa := sa) (aty := ri_aty G) (tyc := tyc) (ad := ad) (mem := mem) (k := k) (e := .inr (ty, n, d, ri_put d ov j t))
          rw [ri_ce_long hty] at e9
          rw [e8, e9] at hP1 hD1
          refine kk ad H1 locs1 ri_ag_rf hP1 hD1 hS1 ?_ ?_ ?_
          · show ri_okM (mem.set k _).length _
            rw [List.length_set]
            exact ri_okM_set hok ⟨hokc.1, ri_put_ok (hst t List.mem_cons_self) hokc.2⟩
          · show mem.length ≤ (mem.set k _).length
            rw [List.length_set]; exact Nat.le_refl _
          · intro z hz
            show ri_ok (mem.set k _).length z
            rw [List.length_set]
            exact hst z (List.mem_cons_of_mem _ (List.mem_cons_of_mem _ (List.mem_cons_of_mem _ hz)))
        · cases h
      · cases h
    · cases h
  · cases h
theorem ri_rf {t : Jvm.Term} (h : ri_k t = 2 ∨ ri_k t = 3) : va_rf (ri_gR (ri_cv ρ sa ad t)) = ri_cv ρ sa ad t := by
  rcases h with h | h
  · obtain ⟨a, ha⟩ := ri_R (ρ := ρ) (sa := sa) (ad := ad) h
    rw [ha]; rfl
  · rw [ri_N h]; rfl
theorem ri_aald_W (hC : ri_Ctx ALL STR sa G M D tyc A p s m args meth c) (h : ri_aald G st mem = some x) (hd : decode (ri_by M) pc = .ok (.aaload, x.1)) (hP : va_P D (ri_cls G) (ri_w ρ sa (ri_aty G) tyc ad mem) H) (hD : va_D A (ri_w ρ sa (ri_aty G) tyc ad mem)) (hS : va_S A s.heap H locs) (hok : ri_okM mem.length mem) (hst : ∀ t ∈ st, ri_ok mem.length t)
    (kk : ri_KK p l e R s m args below meth c cells slots Q G D tyc A ρ sa ad mem ls pc x) : W p l e R s m args below meth c H locs cells slots Q (F0 m pc ls (st.map (ri_cv ρ sa ad))) := by
  obtain ⟨⟨hx, hb, hml, hown, hin⟩, hM, hcl, hlk, hts, hK, hA, hstr⟩ := hC
  unfold ri_aald at h
  split at h
  · next i k r =>
    split at h
    · next ty n d ov hm =>
      split at h
      · next j C hj hty =>
        split at h
        · next hk0 =>
          cases h
          have hw := ri_w_get (ρ := ρ) (sa := sa) (aty := ri_aty G) (tyc := tyc) (ad := ad) hm
          rw [ri_ce_ref hty] at hw
          have hokc := hok _ (List.mem_of_getElem? hm)
          obtain ⟨v, rfl, hv, hvj, hjn⟩ := ri_ix_s hj
          have k1 := kk ad H locs ri_ag_rf hP hD hS hok (Nat.le_refl _) (fun z hz => by
            rcases List.mem_cons.mp hz with rfl | hz
            · exact ri_look_ok hokc.1 hokc.2
            · exact hst z (List.mem_cons_of_mem _ (List.mem_cons_of_mem _ hz)))
          rw [List.map_cons, ← ri_rf hk0, ← hvj] at k1
          exact va_aldq hx hb hK hP k ty hw (ri_tys_get hty) hv hd k1
        · cases h
      · cases h
    · cases h
  · cases h
theorem ri_aast_W (hC : ri_Ctx ALL STR sa G M D tyc A p s m args meth c) (h : ri_aast G st mem = some x) (hd : decode (ri_by M) pc = .ok (.aastore, x.1)) (hP : va_P D (ri_cls G) (ri_w ρ sa (ri_aty G) tyc ad mem) H) (hD : va_D A (ri_w ρ sa (ri_aty G) tyc ad mem)) (hS : va_S A s.heap H locs) (hok : ri_okM mem.length mem) (hst : ∀ t ∈ st, ri_ok mem.length t)
    (kk : ri_KK p l e R s m args below meth c cells slots Q G D tyc A ρ sa ad mem ls pc x) : W p l e R s m args below meth c H locs cells slots Q (F0 m pc ls (st.map (ri_cv ρ sa ad))) := by
  obtain ⟨⟨hx, hb, hml, hown, hin⟩, hM, hcl, hlk, hts, hK, hA, hstr⟩ := hC
  unfold ri_aast at h
  split at h
  · next kv i k r =>
    split at h
    · next ty n d ov ci fs hm hmv =>
      split at h
      · next j rr hj hc1 =>
        split at h
        · next hty =>
          cases h
          have hw := ri_w_get (ρ := ρ) (sa := sa) (aty := ri_aty G) (tyc := tyc) (ad := ad) hm
          rw [ri_ce_ref hty] at hw
          have hwv := ri_w_get (ρ := ρ) (sa := sa) (aty := ri_aty G) (tyc := tyc) (ad := ad) hmv
          have hokc := hok _ (List.mem_of_getElem? hm)
          obtain ⟨v, rfl, hv, hvj, hjn⟩ := ri_ix_s hj
          refine va_astq hx hb hK hP hD hS k ty kv ci hw (ri_tys_get hty) hwv hc1 hv hd (fun H1 locs1 hP1 hD1 hS1 => ?_)
          have e8 : va_up (fun j => ri_gR (ri_cv ρ sa ad (ri_look d ov j))) v.toNatClampNeg (some (ad kv)) = fun i => ri_gR (ri_cv ρ sa ad (ri_look d (ri_put d ov j (.index kv)) i)) := by
            funext i
            rw [ri_put_cv, hvj]
            unfold va_up
            split <;> rfl
          have e9 := ri_w_set (ρ := ρ) (sa := sa) (aty := ri_aty G) (tyc := tyc) (ad := ad) (mem := mem) (k := k) (e := .inr (ty, n, d, ri_put d ov j (.index kv)))
          rw [ri_ce_ref hty] at e9
          rw [e8, e9] at hP1 hD1
          refine kk ad H1 locs1 ri_ag_rf hP1 hD1 hS1 ?_ ?_ ?_
          · show ri_okM (mem.set k _).length _
            rw [List.length_set]
            exact ri_okM_set hok ⟨hokc.1, ri_put_ok (hst _ List.mem_cons_self) hokc.2⟩
          · show mem.length ≤ (mem.set k _).length
            rw [List.length_set]; exact Nat.le_refl _
          · intro z hz
            show ri_ok (mem.set k _).length z
            rw [List.length_set]
            exact hst z (List.mem_cons_of_mem _ (List.mem_cons_of_mem _ (List.mem_cons_of_mem _ hz)))
        · cases h
      · cases h
    · cases h
  · cases h
theorem ri_alen_W (hC : ri_Ctx ALL STR sa G M D tyc A p s m args meth c) (h : ri_alen G st mem = some x) (hd : decode (ri_by M) pc = .ok (.arraylength, x.1)) (hP : va_P D (ri_cls G) (ri_w ρ sa (ri_aty G) tyc ad mem) H) (hD : va_D A (ri_w ρ sa (ri_aty G) tyc ad mem)) (hS : va_S A s.heap H locs) (hok : ri_okM mem.length mem) (hst : ∀ t ∈ st, ri_ok mem.length t)
    (kk : ri_KK p l e R s m args below meth c cells slots Q G D tyc A ρ sa ad mem ls pc x) : W p l e R s m args below meth c H locs cells slots Q (F0 m pc ls (st.map (ri_cv ρ sa ad))) := by
  obtain ⟨⟨hx, hb, hml, hown, hin⟩, hM, hcl, hlk, hts, hK, hA, hstr⟩ := hC
  unfold ri_alen at h
  split at h
  · next k r =>
    split at h
    · next ty n d ov hm =>
      split at h
      · next z hz =>
        cases h
        have hw := ri_w_get (ρ := ρ) (sa := sa) (aty := ri_aty G) (tyc := tyc) (ad := ad) hm
        have k1 := kk ad H locs ri_ag_rf hP hD hS hok (Nat.le_refl _) (fun z hz => by
          rcases List.mem_cons.mp hz with rfl | hz
          · rw [ri_ci_eq]; trivial
          · exact hst z (List.mem_cons_of_mem _ hz))
        rw [List.map_cons, ri_ci_eq] at k1
        exact va_alen hx hb hK hP k ty hw (ri_tys_get hz) rfl hd k1
      · cases h
    · cases h
  · cases h
theorem ri_newo_W (hC : ri_Ctx ALL STR sa G M D tyc A p s m args meth c) (h : ri_newo G M idx st mem = some x) (hd : decode (ri_by M) pc = .ok (.new idx, x.1)) (hP : va_P D (ri_cls G) (ri_w ρ sa (ri_aty G) tyc ad mem) H) (hD : va_D A (ri_w ρ sa (ri_aty G) tyc ad mem)) (hS : va_S A s.heap H locs) (hok : ri_okM mem.length mem) (hst : ∀ t ∈ st, ri_ok mem.length t)
    (hc1 : cells + x.2.2.2.1 ≤ R.cells) (hs1 : slots + x.2.2.2.2.1 ≤ R.slots)
    (kk : ri_KK p l e R s m args below meth c cells slots Q G D tyc A ρ sa ad mem ls pc x) : W p l e R s m args below meth c H locs cells slots Q (F0 m pc ls (st.map (ri_cv ρ sa ad))) := by
  obtain ⟨⟨hx, hb, hml, hown, hin⟩, hM, hcl, hlk, hts, hK, hA, hstr⟩ := hC
  unfold ri_newo at h
  split at h
  · next ci b tx hcp =>
    split at h
    · next C0 T0 N tys hc0 hty =>
      cases h
      obtain ⟨C, T, N2, g1, g2, g3, g4⟩ := ri_cp_s hlk hM hcp
      rw [hc0] at g1
      cases g1
      obtain ⟨tys2, q1, q2, q3, q4, q5⟩ := hcl _ _ _ _ hc0
      rw [hty] at q1
      cases q1
      have hty0 : ∀ k, k < N → parseFieldDescriptor (T0 k).2.2.1 = some (tys.getD k .int) := fun k hk => by
        rw [q3 k hk, List.getD_eq_getElem?_getD]
        rw [← q2] at hk
        rw [List.getElem?_eq_getElem hk]; rfl
      refine va_new (Ts := ALL) (ci := ci) (fs := (tys.map ri_dft).map (ri_cv ρ sa ad)) hx hb hts q5 (fun k => tys.getD k .int) hty0 hown (hts _ g2) (hts _ g3) (hts _ g4) hK hP hD hS hA hc0 ?_ hc1 hs1 hd (fun q H1 hP1 hD1 hS1 => ?_)
      · intro j hj
        rw [← q2] at hj
        simp only [vp_V, List.getD_eq_getElem?_getD, List.getElem?_map, List.getElem?_eq_getElem hj, Option.map_some, Option.getD_some]
        exact (ri_dft_s _).symm
      · have e9 := ri_w_push (ρ := ρ) (sa := sa) (aty := ri_aty G) (tyc := tyc) (ad := ad) (q := q) (e := .inl (ci, tys.map ri_dft)) hok
        have hag : ri_ag mem.length ad (fun k => if k = mem.length then q else ad k) := fun k hk => if_neg (Nat.ne_of_lt hk)
        have hok2 : ∀ t ∈ tys.map ri_dft, ri_ok mem.length t := fun t ht => by
          obtain ⟨ty, -, rfl⟩ := List.mem_map.mp ht
          exact ri_dft_ok ty
        have e8 : ri_ce ρ sa (ri_aty G) tyc (fun k => if k = mem.length then q else ad k) (.inl (ci, tys.map ri_dft)) = .inr (ci, (tys.map ri_dft).map (ri_cv ρ sa ad)) := by
          simp only [ri_ce]
          rw [ri_map_ag hok2 hag]
        rw [e8] at e9
        rw [← e9] at hP1 hD1
        have hlen : (mem ++ [(.inl (ci, tys.map ri_dft) : ri_Ce)]).length = mem.length + 1 := by simp
        have k1 := kk (fun k => if k = mem.length then q else ad k) H1 locs hag hP1 hD1 hS1 (by
          show ri_okM (mem ++ [_]).length (mem ++ [_])
          rw [hlen]
          exact ri_okM_push hok (fun t ht => ri_ok_mono (hok2 t ht) (Nat.le_succ _))) (by
          show mem.length ≤ (mem ++ [_]).length
          rw [hlen]; exact Nat.le_succ _) (by
          intro z hz
          show ri_ok (mem ++ [_]).length z
          rw [hlen]
          rcases List.mem_cons.mp hz with rfl | hz
          · exact Nat.lt_succ_self _
          · exact ri_ok_mono (hst z hz) (Nat.le_succ _))
        have e7 : ((.index mem.length :: st : List Jvm.Term).map (ri_cv ρ sa (fun k => if k = mem.length then q else ad k))) = .ref q :: st.map (ri_cv ρ sa ad) := by
          rw [List.map_cons, ri_map_ag hst hag]
          show Value.ref (if mem.length = mem.length then q else ad mem.length) :: _ = _
          rw [if_pos rfl]
        have k2 := k1
        simp only [e7] at k2
        exact k2
    · cases h
  · cases h
theorem ri_unique {cl : List vw_C} {aty : List FieldType} {j : Nat} {ty : FieldType} {cA : ClassId} (hK : va_K D cl (ri_tys aty tyc) s) (hj : aty[j]? = some ty) (hK2 : va_K D cl (ri_tys aty tyc ++ [(cA, ty)]) s) : cA = tyc j := by
  have h1 := (hK.2 j _ (ri_tys_get hj)).2
  have h2 := (hK2.2 (ri_tys aty tyc).length (cA, ty) (by simp)).2
  cases ty with
  | object C =>
    obtain ⟨-, -, -, -, -, e1⟩ := h1
    obtain ⟨-, -, -, -, -, e2⟩ := h2
    exact Option.some.inj (e2.symm.trans e1)
  | _ => exact Option.some.inj (Eq.trans (Eq.symm h2) h1)
/-- a new row: what is behind it -/
theorem ri_newr_k {a N : Nat} {d : Jvm.Term} {len : Nat} {r : List Jvm.Term} {q : Nat} {H1 : Heap} {va : va_E} (hS1 : va_S A s.heap H1 locs) (hok : ri_okM mem.length mem) (hst : ∀ t ∈ r, ri_ok mem.length t) (hdk : ∀ k, d ≠ .index k)
    (hce : ∀ ad2, ri_ce ρ sa (ri_aty G) tyc ad2 (.inr (a, N, d, [])) = va) (hP1 : va_P D (ri_cls G) (ri_w ρ sa (ri_aty G) tyc ad mem ++ [(q, va)]) H1) (hD1 : va_D A (ri_w ρ sa (ri_aty G) tyc ad mem ++ [(q, va)]))
    (kk : ri_KK p l e R s m args below meth c cells slots Q G D tyc A ρ sa ad mem ls pc (len, .index mem.length :: r, mem ++ [.inr (a, N, d, [])], 1, N, [])) :
    W p l e R s m args below meth c H1 locs (cells + 1) (slots + N) Q (F0 m (pc + len) ls (.ref q :: r.map (ri_cv ρ sa ad))) := by
  have e9 := ri_w_push (ρ := ρ) (sa := sa) (aty := ri_aty G) (tyc := tyc) (ad := ad) (q := q) (e := .inr (a, N, d, [])) hok
  have hag : ri_ag mem.length ad (fun k => if k = mem.length then q else ad k) := fun k hk => if_neg (Nat.ne_of_lt hk)
  rw [hce] at e9
  rw [← e9] at hP1 hD1
  have hokd : ∀ n, ri_ok n d := fun n => by cases d <;> first | trivial | exact absurd rfl (hdk _)
  have hlen : (mem ++ [(.inr (a, N, d, []) : ri_Ce)]).length = mem.length + 1 := by simp
  have k1 := kk (fun k => if k = mem.length then q else ad k) H1 locs hag hP1 hD1 hS1 (by
    show ri_okM (mem ++ [_]).length (mem ++ [_])
    rw [hlen]
    exact ri_okM_push hok ⟨hokd _, fun q hq => by cases hq⟩) (by
    show mem.length ≤ (mem ++ [_]).length
    rw [hlen]; exact Nat.le_succ _) (by
    intro z hz
    show ri_ok (mem ++ [_]).length z
    rw [hlen]
    rcases List.mem_cons.mp hz with rfl | hz
    · exact Nat.lt_succ_self _
    · exact ri_ok_mono (hst z hz) (Nat.le_succ _))
  have e7 : ((.index mem.length :: r : List Jvm.Term).map (ri_cv ρ sa (fun k => if k = mem.length then q else ad k))) = .ref q :: r.map (ri_cv ρ sa ad) := by
    rw [List.map_cons, ri_map_ag hst hag]
    show Value.ref (if mem.length = mem.length then q else ad mem.length) :: _ = _
    rw [if_pos rfl]
  have k2 := k1
  simp only [e7] at k2
  exact k2
theorem ri_newr_s {ty : FieldType} {len : Nat} (h : ri_newr G ty len st mem = some x) : ∃ (v : Int32) (r : List Jvm.Term) (a : Nat), st = .int v :: r ∧ (ri_aty G)[a]? = some ty ∧ ri_isI ty = true ∧ ¬ v < 0 ∧ v.toNatClampNeg ≤ 65536 ∧ x = (len, .index mem.length :: r, mem ++ [.inr (a, v.toNatClampNeg, ri_dft ty, [])], 1, v.toNatClampNeg, []) := by
  unfold ri_newr at h
  split at h
  · next v r a ha =>
    split at h
    · next hk =>
      cases h
      refine ⟨v, r, a, rfl, ?_, hk.1, hk.2.1, hk.2.2, rfl⟩
      obtain ⟨ha1, ha2, -⟩ := List.findIdx?_eq_some_iff_getElem.mp ha
      rw [List.getElem?_eq_getElem ha1]
      simpa using ha2
    · cases h
  · cases h
theorem ri_newa_W {t : ArrayType} (hC : ri_Ctx ALL STR sa G M D tyc A p s m args meth c) (hac : Jvm.Cond.arrayClass (newarray.typeOf t) ∈ ALL) (h : ri_newr G (ri_typeOf t) 2 st mem = some x) (hd : decode (ri_by M) pc = .ok (.newarray t, 2)) (hP : va_P D (ri_cls G) (ri_w ρ sa (ri_aty G) tyc ad mem) H) (hD : va_D A (ri_w ρ sa (ri_aty G) tyc ad mem)) (hS : va_S A s.heap H locs) (hok : ri_okM mem.length mem) (hst : ∀ t ∈ st, ri_ok mem.length t)
    (hc1 : cells + x.2.2.2.1 ≤ R.cells) (hs1 : slots + x.2.2.2.2.1 ≤ R.slots)
    (kk : ri_KK p l e R s m args below meth c cells slots Q G D tyc A ρ sa ad mem ls pc x) : W p l e R s m args below meth c H locs cells slots Q (F0 m pc ls (st.map (ri_cv ρ sa ad))) := by
  obtain ⟨⟨hx, hb, hml, hown, hin⟩, hM, hcl, hlk, hts, hK, hA, hstr⟩ := hC
  obtain ⟨v, r, a, rfl, ha, hi, hv0, hv1, rfl⟩ := ri_newr_s h
  have hty : newarray.typeOf t = ri_typeOf t := rfl
  obtain ⟨a0, hcell, hce9⟩ : ∃ a0 : vp_A, (∀ cA : ClassId, vp_cell cA a0 = arrV cA v.toNatClampNeg (fun _ => defaultValue (ri_typeOf t))) ∧ ∀ ad2, ri_ce ρ sa (ri_aty G) tyc ad2 (.inr (a, v.toNatClampNeg, ri_dft (ri_typeOf t), [])) = .inl (tyc a, a0) := by
    cases t with
    | long => exact ⟨(v.toNatClampNeg, .inr (.inl (fun _ => 0))), fun cA => rfl, fun ad2 => by simp only [ri_ce]; rw [ha]; rfl⟩
    | int => exact ⟨(v.toNatClampNeg, .inl (fun _ => 0)), fun cA => rfl, fun ad2 => by simp only [ri_ce]; rw [ha]; rfl⟩
    | boolean => exact ⟨(v.toNatClampNeg, .inl (fun _ => 0)), fun cA => rfl, fun ad2 => by simp only [ri_ce]; rw [ha]; rfl⟩
    | byte => exact ⟨(v.toNatClampNeg, .inl (fun _ => 0)), fun cA => rfl, fun ad2 => by simp only [ri_ce]; rw [ha]; rfl⟩
    | char => exact ⟨(v.toNatClampNeg, .inl (fun _ => 0)), fun cA => rfl, fun ad2 => by simp only [ri_ce]; rw [ha]; rfl⟩
    | short => exact ⟨(v.toNatClampNeg, .inl (fun _ => 0)), fun cA => rfl, fun ad2 => by simp only [ri_ce]; rw [ha]; rfl⟩
    | _ => cases hi
  have hbytes : v.toNatClampNeg * componentBytes (ri_typeOf t) ≤ 536870912 := Nat.le_trans (Nat.mul_le_mul hv1 (show componentBytes (ri_typeOf t) ≤ 8 by cases t <;> decide)) (by decide)
  refine va_newa hx hb (hts _ hac) hty hK hP hD hS hA hcell hv0 rfl hbytes hc1 hs1 hd (fun q cA H1 hK1 hP1 hD1 hS1 => ?_)
  have e1 := ri_unique hK ha hK1
  subst e1
  exact ri_newr_k hS1 hok (fun t ht => hst t (List.mem_cons_of_mem _ ht)) (fun k => by cases t <;> first | (intro e; cases e; done) | cases hi) hce9 hP1 hD1 kk
theorem ri_newq_W {a : Nat} {ty : FieldType} {C : String} (hC : ri_Ctx ALL STR sa G M D tyc A p s m args meth c) (hl1 : Jvm.Cond.classLink (ri_own M) idx C ∈ ALL) (hl2 : Jvm.Cond.arrayOver (.object C) ∈ ALL) (h : ri_newr G (.object C) 3 st mem = some x) (hd : decode (ri_by M) pc = .ok (.anewarray idx, 3)) (hP : va_P D (ri_cls G) (ri_w ρ sa (ri_aty G) tyc ad mem) H) (hD : va_D A (ri_w ρ sa (ri_aty G) tyc ad mem)) (hS : va_S A s.heap H locs) (hok : ri_okM mem.length mem) (hst : ∀ t ∈ st, ri_ok mem.length t)
    (hc1 : cells + x.2.2.2.1 ≤ R.cells) (hs1 : slots + x.2.2.2.2.1 ≤ R.slots)
    (kk : ri_KK p l e R s m args below meth c cells slots Q G D tyc A ρ sa ad mem ls pc x) : W p l e R s m args below meth c H locs cells slots Q (F0 m pc ls (st.map (ri_cv ρ sa ad))) := by
  obtain ⟨⟨hx, hb, hml, hown, hin⟩, hM, hcl, hlk, hts, hK, hA, hstr⟩ := hC
  obtain ⟨v, r, a, rfl, ha, hi, hv0, hv1, rfl⟩ := ri_newr_s h
  have hbytes : v.toNatClampNeg * 4 ≤ 536870912 := Nat.le_trans (Nat.mul_le_mul hv1 (Nat.le_refl 4)) (by decide)
  refine va_newq hx hb hown (hts _ hl1) (va_AO.of (hts _ hl2)) hK hP hD hS hA hv0 rfl hbytes hc1 hs1 hd (fun q cA H1 hK1 hP1 hD1 hS1 => ?_)
  have e1 := ri_unique hK ha hK1
  subst e1
  exact ri_newr_k hS1 hok (fun t ht => hst t (List.mem_cons_of_mem _ ht)) (fun k e => by cases e) (fun ad2 => ri_ce_ref ha) hP1 hD1 kk
set_option maxHeartbeats 2000000 in
theorem ri_ldc_W (hC : ri_Ctx ALL STR sa G M D tyc A p s m args meth c) (h : ri_ldc G M idx st mem = some x) (hd : decode (ri_by M) pc = .ok (.ldc idx, x.1)) (hP : va_P D (ri_cls G) (ri_w ρ sa (ri_aty G) tyc ad mem) H) (hD : va_D A (ri_w ρ sa (ri_aty G) tyc ad mem)) (hS : va_S A s.heap H locs) (hok : ri_okM mem.length mem) (hst : ∀ t ∈ st, ri_ok mem.length t)
    (kk : ri_KK p l e R s m args below meth c cells slots Q G D tyc A ρ sa ad mem ls pc x) : W p l e R s m args below meth c H locs cells slots Q (F0 m pc ls (st.map (ri_cv ρ sa ad))) := by
  obtain ⟨⟨hx, hb, hml, hown, hin⟩, hM, hcl, hlk, hts, hK, hA, hstr⟩ := hC
  unfold ri_ldc at h
  split at h
  · next a b tx hcp =>
    cases h
    have hlink := ri_cp_s hlk hM hcp
    have k1 := kk ad H locs ri_ag_rf hP hD hS hok (Nat.le_refl _) (fun z hz => by
      rcases List.mem_cons.mp hz with rfl | hz
      · rw [ri_ci_eq]; trivial
      · exact hst z hz)
    rw [List.map_cons, ri_ci_eq] at k1
    exact lv_ldc hx hb hown (hts _ hlink) hd k1
  · next a b tx hcp =>
    cases h
    have hlink := ri_cp_s hlk hM hcp
    have k1 := kk ad H locs ri_ag_rf hP hD hS hok (Nat.le_refl _) (fun z hz => by
      rcases List.mem_cons.mp hz with rfl | hz
      · trivial
      · exact hst z hz)
    exact va_ldcS hx hb hown (hstr _ hlink) hd k1
  · cases h
theorem ri_ldcwS {q : Nat} {rest : List Value} {own tx : String} (hexec : p.tables.exec = Jvm.exec) (hb : c.code = ri_by M) (hown : s.vm.findClass own = some m.cls) (hZ : vk_R own idx tx q s) (hdg : decode (ri_by M) pc = .ok (.ldc_w idx, 3))
    (k : W p l e R s m args below meth c H locs cells slots Q (F0 m (pc + 3) ls (.ref q :: rest))) : W p l e R s m args below meth c H locs cells slots Q (F0 m pc ls rest) := by
  intro T hT X
  obtain ⟨t, a1, b1⟩ := k T hT X
  exact ⟨t, X.ldcStringW hexec hown (text := tx) (a := q) hZ.1 hZ.2 (g := F0 m pc ls rest) rfl (by rw [hb]; exact hdg) t a1, b1⟩
set_option maxHeartbeats 2000000 in
theorem ri_ldcw_W (hC : ri_Ctx ALL STR sa G M D tyc A p s m args meth c) (h : ri_ldcw G M idx st mem = some x) (hd : decode (ri_by M) pc = .ok (.ldc_w idx, x.1)) (hP : va_P D (ri_cls G) (ri_w ρ sa (ri_aty G) tyc ad mem) H) (hD : va_D A (ri_w ρ sa (ri_aty G) tyc ad mem)) (hS : va_S A s.heap H locs) (hok : ri_okM mem.length mem) (hst : ∀ t ∈ st, ri_ok mem.length t)
    (kk : ri_KK p l e R s m args below meth c cells slots Q G D tyc A ρ sa ad mem ls pc x) : W p l e R s m args below meth c H locs cells slots Q (F0 m pc ls (st.map (ri_cv ρ sa ad))) := by
  obtain ⟨⟨hx, hb, hml, hown, hin⟩, hM, hcl, hlk, hts, hK, hA, hstr⟩ := hC
  unfold ri_ldcw at h
  split at h
  · next a b tx hcp =>
    cases h
    have hlink := ri_cp_s hlk hM hcp
    have k1 := kk ad H locs ri_ag_rf hP hD hS hok (Nat.le_refl _) (ri_all_cons0 trivial hst)
    exact ri_ldcwS hx hb hown (hstr _ hlink) hd k1
  · cases h
theorem ri_ldc2_W (hC : ri_Ctx ALL STR sa G M D tyc A p s m args meth c) (h : ri_ldc2 G M idx st mem = some x) (hd : decode (ri_by M) pc = .ok (.ldc2_w idx, x.1)) (hP : va_P D (ri_cls G) (ri_w ρ sa (ri_aty G) tyc ad mem) H) (hD : va_D A (ri_w ρ sa (ri_aty G) tyc ad mem)) (hS : va_S A s.heap H locs) (hok : ri_okM mem.length mem) (hst : ∀ t ∈ st, ri_ok mem.length t)
    (kk : ri_KK p l e R s m args below meth c cells slots Q G D tyc A ρ sa ad mem ls pc x) : W p l e R s m args below meth c H locs cells slots Q (F0 m pc ls (st.map (ri_cv ρ sa ad))) := by
  obtain ⟨⟨hx, hb, hml, hown, hin⟩, hM, hcl, hlk, hts, hK, hA, hstr⟩ := hC
  unfold ri_ldc2 at h
  split at h
  · next a b tx hcp =>
    cases h
    have hlink := ri_cp_s hlk hM hcp
    have k1 := kk ad H locs ri_ag_rf hP hD hS hok (Nat.le_refl _) (fun z hz => by
      rcases List.mem_cons.mp hz with rfl | hz
      · rw [ri_cl_eq]; trivial
      · exact hst z hz)
    rw [List.map_cons, ri_cl_eq] at k1
    exact lv_ldc2 hx hb hown (hts _ hlink) hd k1
  · cases h
theorem ri_P_ext {cl : List vw_C} {ws : va_W} {q a n : Nat} {cA : ClassId} {f g : Nat → Int32} (h : va_P D cl (ws.set q (a, .inl (cA, n, .inl f))) H) (e : ∀ j, j < n → f j = g j) : va_P D cl (ws.set q (a, .inl (cA, n, .inl g))) H := by
  intro k z hk
  have hc : vp_cell cA (n, .inl f) = vp_cell cA (n, .inl g) := by
    show arrV cA n (fun j => .int (f j)) = arrV cA n (fun j => .int (g j))
    unfold arrV
    have e1 : (Array.ofFn (n := n) fun j => Value.int (f j.val)) = Array.ofFn (n := n) fun j => Value.int (g j.val) := by
      congr 1
      funext j
      rw [e j.val j.isLt]
    rw [e1]
  by_cases hq : q = k
  · subst hq
    have hl : q < ws.length := by
      have := (List.getElem?_eq_some_iff.mp hk).1
      simpa using this
    rw [List.getElem?_set_self hl] at hk
    cases hk
    have h1 := h q (a, .inl (cA, n, .inl f)) (List.getElem?_set_self hl)
    show H[a]? = some (vp_cell cA (n, .inl g))
    rw [← hc]
    exact h1
  · refine h k z ?_
    rw [List.getElem?_set_ne hq] at hk ⊢
    exact hk
theorem ri_sum4 {r : List Jvm.Term} (h : r.length ≤ 4) : ((r.map (ri_cv ρ sa ad)).map fun v => v.category).sum ≤ 8 := by
  have key : ∀ r : List Jvm.Term, ((r.map (ri_cv ρ sa ad)).map fun v => v.category).sum ≤ 2 * r.length := by
    intro r
    induction r with
    | nil => simp
    | cons a r ih =>
      simp only [List.map_cons, List.sum_cons, List.length_cons]
      rcases lv_cat (ri_cv ρ sa ad a) with h1 | h1 <;> omega
  have := key r
  omega
theorem ri_acpy_W (hC : ri_Ctx ALL STR sa G M D tyc A p s m args meth c) (hlk : Jvm.Cond.methodLink (ri_own M) idx arraycopyName ∈ ALL ∧ Jvm.Cond.native arraycopyName ∈ ALL ∧ Jvm.Cond.static arraycopyName ∈ ALL ∧ Jvm.Cond.initialized "java/lang/System" ∈ ALL) (h : ri_acpy G st mem = some x) (hd : decode (ri_by M) pc = .ok (.invokestatic idx, x.1)) (hP : va_P D (ri_cls G) (ri_w ρ sa (ri_aty G) tyc ad mem) H) (hD : va_D A (ri_w ρ sa (ri_aty G) tyc ad mem)) (hS : va_S A s.heap H locs) (hok : ri_okM mem.length mem) (hst : ∀ t ∈ st, ri_ok mem.length t)
    (hls : ls.size = ri_mx M) (hR1 : 1 ≤ R.frames) (hR2 : 100 ≤ R.locals)
    (kk : ri_KK p l e R s m args below meth c cells slots Q G D tyc A ρ sa ad mem ls pc x) : W p l e R s m args below meth c H locs cells slots Q (F0 m pc ls (st.map (ri_cv ρ sa ad))) := by
  obtain ⟨⟨hx, hb, hml, hown, hin⟩, hM, hcl, -, hts, hK, hA, hstr⟩ := hC
  unfold ri_acpy at h
  split at h
  · next n dp k1 sp k0 r =>
    split at h
    · next t0 n0 d0 o0 t1 n1 d1 o1 hm0 hm1 =>
      split at h
      · next hk =>
        cases h
        obtain ⟨hty, rfl, rfl, rfl, rfl, hn0, rfl, hr⟩ := hk
        have hw0 := ri_w_get (ρ := ρ) (sa := sa) (aty := ri_aty G) (tyc := tyc) (ad := ad) hm0
        have hw1 := ri_w_get (ρ := ρ) (sa := sa) (aty := ri_aty G) (tyc := tyc) (ad := ad) hm1
        rw [ri_ce_int hty] at hw0 hw1
        have hsum := ri_sum4 (ρ := ρ) (sa := sa) (ad := ad) hr
        refine va_copyi (ty := .int) hx hb (hml.trans hls.symm) hown (hts _ hlk.1) (hts _ hlk.2.1) (hts _ hlk.2.2.1) (hts _ hlk.2.2.2) hK hP hD hS k0 k1 t1 t1 hw0 hw1 (ri_tys_get hty) (ri_tys_get hty) rfl (by decide) (by decide) hn0 (by show 0 + _ ≤ _; omega) (by show 0 + _ ≤ _; omega) (fun _ _ => rfl) hR1 (Nat.le_trans (Nat.add_le_add hsum (show nativeFrameWords "java/lang/System" "arraycopy" 5 + 11 ≤ 92 by decide)) hR2) hd (fun H1 locs1 hP1 hD1 hS1 => ?_)
        have e9 := ri_w_set (ρ := ρ) (sa := sa) (aty := ri_aty G) (tyc := tyc) (ad := ad) (mem := mem) (k := k1) (e := .inr (t1, n.toNatClampNeg, d0, o0))
        rw [ri_ce_int hty] at e9
        have hP2 := ri_P_ext (g := fun j => ri_gI (ri_cv ρ sa ad (ri_look d0 o0 j))) hP1 (fun j hj => by
          unfold va_cpy
          rw [if_pos ⟨Nat.zero_le _, by show j < 0 + _; omega⟩]
          show ri_gI (ri_cv ρ sa ad (ri_look d0 o0 (0 + (j - 0)))) = _
          rw [Nat.zero_add, Nat.sub_zero])
        have hD2 : va_D A ((ri_w ρ sa (ri_aty G) tyc ad mem).set k1 (ad k1, .inl (tyc t1, n.toNatClampNeg, .inl (fun j => ri_gI (ri_cv ρ sa ad (ri_look d0 o0 j)))))) := by
          exact va_D.set hD hw1
        rw [e9] at hP2 hD2
        have hokc := hok _ (List.mem_of_getElem? hm0)
        refine kk ad H1 locs1 ri_ag_rf hP2 hD2 hS1 ?_ ?_ ?_
        · show ri_okM (mem.set k1 _).length _
          rw [List.length_set]
          exact ri_okM_set hok hokc
        · show mem.length ≤ (mem.set k1 _).length
          rw [List.length_set]; exact Nat.le_refl _
        · intro z hz
          show ri_ok (mem.set k1 _).length z
          rw [List.length_set]
          exact hst z (List.mem_cons_of_mem _ (List.mem_cons_of_mem _ (List.mem_cons_of_mem _ (List.mem_cons_of_mem _ (List.mem_cons_of_mem _ hz)))))
      · cases h
    · cases h
  · cases h
end RIW1
end RIW
end
section
/-! RI: the run: forks, jumps, calls, answers, exceptions -/
section RIR
/-- what bounds tell -/
def ri_decB (k : Nat) (x y : Int × Int) : Option Bool := match k with
  | 0 => if x.2 < y.1 then some false else if y.2 < x.1 then some false else if x.1 = x.2 ∧ y.1 = y.2 ∧ x.1 = y.1 then some true else none
  | _ => if x.2 < y.1 then some true else if y.2 ≤ x.1 then some false else none
theorem ri_decB_s {k : Nat} {x y : Int × Int} {a b : Int32} {r : Bool} (hx : ri_B x a.toInt) (hy : ri_B y b.toInt) (h : ri_decB k x y = some r) : r = true ↔ ri_rel k a b := by
  obtain ⟨h1, h2⟩ := hx
  obtain ⟨h3, h4⟩ := hy
  cases k with
  | zero =>
    show _ ↔ a = b
    rw [← Int32.toInt_inj]
    simp only [ri_decB] at h
    split at h
    · cases h; exact ⟨fun z => (by cases z), fun z => by omega⟩
    · split at h
      · cases h; exact ⟨fun z => (by cases z), fun z => by omega⟩
      · split at h
        · cases h; exact ⟨fun _ => by omega, fun _ => rfl⟩
        · cases h
  | succ k =>
    show _ ↔ a < b
    rw [Int32.lt_iff_toInt_lt]
    simp only [ri_decB] at h
    split at h
    · cases h; exact ⟨fun _ => by omega, fun _ => rfl⟩
    · split at h
      · cases h; exact ⟨fun z => (by cases z), fun z => by omega⟩
      · cases h
/-- is it known already? -/
def ri_dec (cs : List ri_Cd) (k : Nat) (a b : Jvm.Term) : Option Bool := match a, b with
  | .int x, .int y => some (match k with
    | 0 => decide (x = y)
    | _ => decide (x < y))
  | _, _ => match cs.find? (fun q => q.1 == k && (ri_eqT q.2.1 a && ri_eqT q.2.2.1 b)) with
    | some q => some q.2.2.2
    | none => if ri_k a = 0 ∧ ri_k b = 0 then ri_decB k (ri_bd cs a) (ri_bd cs b) else none
theorem ri_dec_s {ρ : Nat → Int32} {cs : List ri_Cd} {k : Nat} {a b : Jvm.Term} {r : Bool} (hsat : ∀ q ∈ cs, ri_sat ρ q) (h : ri_dec cs k a b = some r) : r = true ↔ ri_rel k (ri_iv ρ a) (ri_iv ρ b) := by
  unfold ri_dec at h
  split at h
  · next x y =>
    cases h
    show _ ↔ ri_rel k x y
    unfold ri_rel
    split <;> simp
  · split at h
    · next q hq =>
      cases h
      have h1 := hsat q (List.mem_of_find?_eq_some hq)
      have h2 := List.find?_some hq
      simp only [Bool.and_eq_true, beq_iff_eq] at h2
      have e1 := ri_eqT_s _ _ h2.2.1
      have e2 := ri_eqT_s _ _ h2.2.2
      unfold ri_sat at h1
      rw [h2.1, e1, e2] at h1
      exact h1
    · split at h
      · next hk => exact ri_decB_s ((ri_bd_s hsat a).1 hk.1) ((ri_bd_s hsat b).1 hk.2) h
      · cases h
/-- a long that is an int's -/
def ri_i2 : Jvm.Term → Option Jvm.Term
  | .op1 .i2l a => if ri_k a = 0 then some a else none
  | .long c => if -2147483648 ≤ c.toInt ∧ c.toInt ≤ 2147483647 then some (ri_ci c.toInt32) else none
  | _ => none
theorem ri_i2_s {ρ : Nat → Int32} {t x : Jvm.Term} (h : ri_i2 t = some x) : (ri_il ρ t).toInt = (ri_iv ρ x).toInt := by
  unfold ri_i2 at h
  split at h
  · next a =>
    split at h
    · cases h; exact Int32.toInt_toInt64 _
    · cases h
  · next c =>
    split at h
    · next hc =>
      cases h
      rw [ri_ci_eq]
      show c.toInt = c.toInt32.toInt
      rw [Int64.toInt_toInt32, Int.bmod_eq_of_le (by omega) (by omega)]
    · cases h
  · cases h
/-- compares of longs that are ints', of constants, in one form -/
def ri_norm (q : ri_Cd) : ri_Cd := match q with
  | (k, .op2 .lcmp a b, .int z, v) => if z = 0 then (match ri_i2 a, ri_i2 b with
    | some x, some y => (k, x, y, v)
    | _, _ => q) else q
  | (k, .int z, .op2 .lcmp a b, v) => if z = 0 then (match ri_i2 a, ri_i2 b with
    | some x, some y => (k, y, x, v)
    | _, _ => q) else q
  | _ => q
def ri_norm2 (q : ri_Cd) : ri_Cd := match q with
  | (k, .int x, b, v) => match k with
    | 0 => (0, b, .int x, v)
    | _ => if x.toInt < 2147483647 then (1, b, ri_ci (x + 1), !v) else q
  | _ => q
theorem ri_norm_s {ρ : Nat → Int32} (q : ri_Cd) : ri_sat ρ (ri_norm q) ↔ ri_sat ρ q := by
  have e1 : (1 : Int32).toInt = 1 := by decide
  have e0 : (0 : Int32).toInt = 0 := by decide
  have em : (-1 : Int32).toInt = -1 := by decide
  have c0 : ∀ x y : Int64, lg_cmp x y = 0 ↔ x.toInt = y.toInt := fun x y => by
    rw [Int64.toInt_inj]
    unfold lg_cmp
    by_cases h1 : x > y
    · rw [if_pos h1]; exact ⟨fun h => absurd h (by decide), fun h => by rw [h] at h1; exact absurd h1 (Int64.lt_irrefl)⟩
    · rw [if_neg h1]
      by_cases h2 : x = y
      · rw [if_pos h2]; exact ⟨fun _ => h2, fun _ => rfl⟩
      · rw [if_neg h2]; exact ⟨fun h => absurd h (by decide), fun h => absurd h h2⟩
  have c1 : ∀ x y : Int64, lg_cmp x y < 0 ↔ x.toInt < y.toInt := fun x y => by
    unfold lg_cmp
    by_cases h1 : x > y
    · rw [if_pos h1]
      have h3 := Int64.lt_iff_toInt_lt.mp h1
      exact ⟨fun h => absurd h (by decide), fun h => by omega⟩
    · rw [if_neg h1]
      by_cases h2 : x = y
      · rw [if_pos h2]; exact ⟨fun h => absurd h (by decide), fun h => by rw [h2] at h; omega⟩
      · rw [if_neg h2]
        have h3 : ¬ y.toInt < x.toInt := fun z => h1 (Int64.lt_iff_toInt_lt.mpr z)
        have h4 : x.toInt ≠ y.toInt := fun z => h2 (Int64.toInt_inj.mp z)
        exact ⟨fun _ => by omega, fun _ => by decide⟩
  have c2 : ∀ x y : Int64, 0 < lg_cmp x y ↔ y.toInt < x.toInt := fun x y => by
    unfold lg_cmp
    by_cases h1 : x > y
    · rw [if_pos h1]
      have h3 := Int64.lt_iff_toInt_lt.mp h1
      exact ⟨fun _ => h3, fun _ => by decide⟩
    · rw [if_neg h1]
      have h3 : ¬ y.toInt < x.toInt := fun z => h1 (Int64.lt_iff_toInt_lt.mpr z)
      by_cases h2 : x = y
      · rw [if_pos h2]; exact ⟨fun h => absurd h (by decide), fun h => absurd h h3⟩
      · rw [if_neg h2]; exact ⟨fun h => absurd h (by decide), fun h => absurd h h3⟩
  unfold ri_norm
  split
  · next k a b z v =>
    split
    · next hz =>
      subst hz
      split
      · next x y hx hy =>
        have hx := ri_i2_s (ρ := ρ) hx
        have hy := ri_i2_s (ρ := ρ) hy
        unfold ri_sat
        cases k with
        | zero =>
          show (v = true ↔ ri_iv ρ x = ri_iv ρ y) ↔ (v = true ↔ lg_cmp (ri_il ρ a) (ri_il ρ b) = 0)
          rw [c0, ← Int32.toInt_inj, hx, hy]
        | succ k =>
          show (v = true ↔ ri_iv ρ x < ri_iv ρ y) ↔ (v = true ↔ lg_cmp (ri_il ρ a) (ri_il ρ b) < 0)
          rw [c1, Int32.lt_iff_toInt_lt, hx, hy]
      · exact Iff.rfl
    · exact Iff.rfl
  · next k z a b v =>
    split
    · next hz =>
      subst hz
      split
      · next x y hx hy =>
        have hx := ri_i2_s (ρ := ρ) hx
        have hy := ri_i2_s (ρ := ρ) hy
        unfold ri_sat
        cases k with
        | zero =>
          show (v = true ↔ ri_iv ρ y = ri_iv ρ x) ↔ (v = true ↔ 0 = lg_cmp (ri_il ρ a) (ri_il ρ b))
          rw [eq_comm (a := (0 : Int32)), c0, eq_comm (a := ri_iv ρ y), ← Int32.toInt_inj, hx, hy]
        | succ k =>
          show (v = true ↔ ri_iv ρ y < ri_iv ρ x) ↔ (v = true ↔ 0 < lg_cmp (ri_il ρ a) (ri_il ρ b))
          rw [c2, Int32.lt_iff_toInt_lt, hx, hy]
      · exact Iff.rfl
    · exact Iff.rfl
  · exact Iff.rfl
theorem ri_norm2_s {ρ : Nat → Int32} (q : ri_Cd) : ri_sat ρ (ri_norm2 q) ↔ ri_sat ρ q := by
  unfold ri_norm2
  split
  · next k x b v =>
    split
    · show (v = true ↔ ri_iv ρ b = x) ↔ (v = true ↔ x = ri_iv ρ b)
      rw [eq_comm (a := x)]
    · next hk =>
      split
      · next hx =>
        have hr : ri_sat ρ (k, .int x, b, v) ↔ (v = true ↔ x < ri_iv ρ b) := by
          cases k with
          | zero => exact absurd rfl hk
          | succ k => exact Iff.rfl
        have h1 := Int32.le_toInt x
        have h2 : (x + 1).toInt = x.toInt + 1 := by
          rw [Int32.toInt_add, show (1 : Int32).toInt = 1 from by decide]
          have : Int32.minValue.toInt = -2147483648 := by decide
          exact Int.bmod_eq_of_le (by omega) (by omega)
        rw [hr, ri_ci_eq]
        show ((!v) = true ↔ ri_iv ρ b < x + 1) ↔ _
        rw [Int32.lt_iff_toInt_lt, Int32.lt_iff_toInt_lt, h2]
        cases v <;> simp <;> omega
      · exact Iff.rfl
  · exact Iff.rfl
def ri_both (a b : Option ri_Rs) : Option ri_Rs := match a, b with
  | some (l1, c1, s1, o1), some (l2, c2, s2, o2) => some (l1 ++ l2, max c1 c2, max s1 s2, o1 ++ o2)
  | _, _ => none
/-- one result among another's -/
def ri_le (r1 r : ri_Rs) : Prop := (∀ x ∈ r1.1, x ∈ r.1) ∧ r1.2.1 ≤ r.2.1 ∧ r1.2.2.1 ≤ r.2.2.1 ∧ ∀ o ∈ r1.2.2.2, o ∈ r.2.2.2
theorem ri_both_s {a b : Option ri_Rs} {r : ri_Rs} (h : ri_both a b = some r) : ∃ ra rb, a = some ra ∧ b = some rb ∧ ri_le ra r ∧ ri_le rb r := by
  unfold ri_both at h
  split at h
  · next l1 c1 s1 o1 l2 c2 s2 o2 =>
    cases h
    exact ⟨_, _, rfl, rfl, ⟨fun x hx => List.mem_append_left _ hx, Nat.le_max_left _ _, Nat.le_max_left _ _, fun x hx => List.mem_append_left _ hx⟩, ⟨fun x hx => List.mem_append_right _ hx, Nat.le_max_right _ _, Nat.le_max_right _ _, fun x hx => List.mem_append_right _ hx⟩⟩
  · cases h
def ri_seq (k : ri_Lf → Option ri_Rs) : List ri_Lf → Option ri_Rs
  | [] => some ([], 0, 0, [])
  | x :: l => ri_both (k x) (ri_seq k l)
theorem ri_le_tr {a b c : ri_Rs} (h1 : ri_le a b) (h2 : ri_le b c) : ri_le a c := ⟨fun x hx => h2.1 x (h1.1 x hx), Nat.le_trans h1.2.1 h2.2.1, Nat.le_trans h1.2.2.1 h2.2.2.1, fun o ho => h2.2.2.2 o (h1.2.2.2 o ho)⟩
theorem ri_seq_s {k : ri_Lf → Option ri_Rs} : ∀ (l : List ri_Lf) {r : ri_Rs}, ri_seq k l = some r → ∀ x ∈ l, ∃ rx, k x = some rx ∧ ri_le rx r
  | [], _, _, x, hx => by cases hx
  | y :: l, r, h, x, hx => by
    obtain ⟨ra, rb, h1, h2, h3, h4⟩ := ri_both_s (show ri_both (k y) (ri_seq k l) = some r from h)
    rcases List.mem_cons.mp hx with rfl | hx
    · exact ⟨ra, h1, h3⟩
    · obtain ⟨rx, g1, g2⟩ := ri_seq_s l h2 x hx
      exact ⟨rx, g1, ri_le_tr g2 h4⟩
/-- a fork: (sort, a, b, v): T where (a sort b) is v, else F -/
def ri_br0 (cs : List ri_Cd) (q : ri_Cd) (T F : List ri_Cd → Option ri_Rs) : Option ri_Rs := match ri_dec cs q.1 q.2.1 q.2.2.1 with
  | some r => if r = q.2.2.2 then T cs else F cs
  | none => ri_both (T (q :: cs)) (F ((q.1, q.2.1, q.2.2.1, !q.2.2.2) :: cs))
/-- of constants at once; else in one form -/
def ri_br (cs : List ri_Cd) (q : ri_Cd) (T F : List ri_Cd → Option ri_Rs) : Option ri_Rs := match q.2.1, q.2.2.1 with
  | .int _, .int _ => ri_br0 cs q T F
  | _, _ => ri_br0 cs (ri_norm2 (ri_norm q)) T F
theorem ri_br0_s {ρ : Nat → Int32} {cs : List ri_Cd} {q : ri_Cd} {T F : List ri_Cd → Option ri_Rs} {r : ri_Rs} (hsat : ∀ q ∈ cs, ri_sat ρ q) (h : ri_br0 cs q T F = some r) :
    (ri_sat ρ q ∧ ∃ cs' r1, T cs' = some r1 ∧ (∀ q ∈ cs', ri_sat ρ q) ∧ ri_le r1 r) ∨ (¬ ri_sat ρ q ∧ ∃ cs' r1, F cs' = some r1 ∧ (∀ q ∈ cs', ri_sat ρ q) ∧ ri_le r1 r) := by
  unfold ri_br0 at h
  have rf : ri_le r r := ⟨fun _ h => h, Nat.le_refl _, Nat.le_refl _, fun _ h => h⟩
  split at h
  · next v hv =>
    have h1 := ri_dec_s hsat hv
    split at h
    · next e => exact Or.inl ⟨by unfold ri_sat; rw [← e]; exact h1, cs, r, h, hsat, rf⟩
    · next e =>
      refine Or.inr ⟨fun hs => e ?_, cs, r, h, hsat, rf⟩
      unfold ri_sat at hs
      rw [Bool.eq_iff_iff]
      exact h1.trans hs.symm
  · obtain ⟨ra, rb, h1, h2, h3, h4⟩ := ri_both_s h
    by_cases hq : ri_sat ρ q
    · exact Or.inl ⟨hq, _, ra, h1, fun z hz => by
        rcases List.mem_cons.mp hz with rfl | hz
        · exact hq
        · exact hsat z hz, h3⟩
    · refine Or.inr ⟨hq, _, rb, h2, fun z hz => ?_, h4⟩
      rcases List.mem_cons.mp hz with rfl | hz
      · unfold ri_sat at hq ⊢
        cases hv : q.2.2.2 <;> simp [hv] at hq ⊢ <;> exact hq
      · exact hsat z hz
theorem ri_br_s {ρ : Nat → Int32} {cs : List ri_Cd} {q : ri_Cd} {T F : List ri_Cd → Option ri_Rs} {r : ri_Rs} (hsat : ∀ q ∈ cs, ri_sat ρ q) (h : ri_br cs q T F = some r) :
    (ri_sat ρ q ∧ ∃ cs' r1, T cs' = some r1 ∧ (∀ q ∈ cs', ri_sat ρ q) ∧ ri_le r1 r) ∨ (¬ ri_sat ρ q ∧ ∃ cs' r1, F cs' = some r1 ∧ (∀ q ∈ cs', ri_sat ρ q) ∧ ri_le r1 r) := by
  unfold ri_br at h
  split at h
  · exact ri_br0_s hsat h
  · have h1 := ri_br0_s hsat h
    rw [ri_norm2_s, ri_norm_s] at h1
    exact h1
/-- each value of an int between bounds -/
def ri_vals (x : Jvm.Term) (K : Jvm.Term → List ri_Cd → Option ri_Rs) : Nat → Int → List ri_Cd → Option ri_Rs
  | 0, _, _ => some ([], 0, 0, [])
  | n + 1, lo, cs => ri_br cs (0, x, ri_ci (Int32.ofInt lo), true) (fun cs' => K (ri_ci (Int32.ofInt lo)) cs') (fun cs' => ri_vals x K n (lo + 1) cs')
theorem ri_vals_s {ρ : Nat → Int32} {x : Jvm.Term} {K : Jvm.Term → List ri_Cd → Option ri_Rs} : ∀ (n : Nat) (lo : Int) (cs : List ri_Cd) {r : ri_Rs}, (∀ q ∈ cs, ri_sat ρ q) → ri_vals x K n lo cs = some r → lo ≤ (ri_iv ρ x).toInt → (ri_iv ρ x).toInt < lo + (n : Int) →
    ∃ (v : Int32) (cs' : List ri_Cd) (r1 : ri_Rs), ri_iv ρ x = v ∧ K (.int v) cs' = some r1 ∧ (∀ q ∈ cs', ri_sat ρ q) ∧ ri_le r1 r
  | 0, lo, cs, r, hs, h, h1, h2 => absurd h2 (by omega)
  | n + 1, lo, cs, r, hs, h, h1, h2 => by
    unfold ri_vals at h
    rw [ri_ci_eq] at h
    have i1 : Int32.minValue.toInt ≤ (ri_iv ρ x).toInt := Int32.le_toInt _
    rcases ri_br_s hs h with ⟨g1, cs', r1, g2, g3, g4⟩ | ⟨g1, cs', r1, g2, g3, g4⟩
    · exact ⟨_, cs', r1, g1.mp rfl, g2, g3, g4⟩
    · have hne : (ri_iv ρ x).toInt ≠ lo := fun z => g1 ⟨fun _ => by
        show ri_iv ρ x = Int32.ofInt lo
        rw [← z, Int32.ofInt_toInt], fun _ => rfl⟩
      obtain ⟨v, cs2, r2, k1, k2, k3, k4⟩ := ri_vals_s n (lo + 1) cs' g3 g2 (by omega) (by omega)
      exact ⟨v, cs2, r2, k1, k2, k3, ri_le_tr k4 g4⟩
/-- what an instruction wants known -/
def ri_foc (i : Instr) (st : List Jvm.Term) : Option (List Jvm.Term × Jvm.Term × List Jvm.Term) := match i, st with
  | .iaload, x :: r => some ([], x, r)
  | .aaload, x :: r => some ([], x, r)
  | .laload, x :: r => some ([], x, r)
  | .iastore, t :: x :: r => some ([t], x, r)
  | .lastore, t :: x :: r => some ([t], x, r)
  | _, _ => none
theorem ri_foc_s {i : Instr} {st a r : List Jvm.Term} {x : Jvm.Term} (h : ri_foc i st = some (a, x, r)) : st = a ++ x :: r := by
  unfold ri_foc at h
  split at h <;> first | (cases h; rfl) | cases h
def ri_cst : Jvm.Term → Bool
  | .int _ => true
  | _ => false
def ri_tg (pc : Nat) (off : Int) : Option Nat := match (pc : Int) + off with
  | .ofNat n => some n
  | .negSucc _ => none
theorem ri_tg_s {pc t : Nat} {off : Int} (h : ri_tg pc off = some t) : (pc : Int) + off = (t : Int) := by
  unfold ri_tg at h
  split at h
  · next n e => cases h; rw [e]; rfl
  · cases h
def ri_cnd (c : ClassFile.Cond) (a b : Jvm.Term) : ri_Cd := match c with
  | .eq => (0, a, b, true)
  | .ne => (0, a, b, false)
  | .lt => (1, a, b, true)
  | .ge => (1, a, b, false)
  | .gt => (1, b, a, true)
  | .le => (1, b, a, false)
/-- a switch, as a row of forks -/
def ri_chain (x : Jvm.Term) (pc : Nat) (T : Nat → List ri_Cd → Option ri_Rs) (dflt : Int) : List (Int × Int) → List ri_Cd → Option ri_Rs
  | [], cs => match ri_tg pc dflt with
    | some t => T t cs
    | none => none
  | (v, off) :: l, cs => ri_br cs (0, x, ri_ci (Int32.ofInt v), true) (fun cs' => match ri_tg pc off with
    | some t => T t cs'
    | none => none) (fun cs' => ri_chain x pc T dflt l cs')
abbrev ri_K : Type := Nat → List (Nat × Jvm.Term) → List Jvm.Term → List ri_Cd → ri_Me → Option ri_Rs
abbrev ri_Call : Type := Nat → List Jvm.Term → List ri_Cd → ri_Me → Option ri_Rs
/-- more cells, more obligations ahead of what follows -/
def ri_more (c s : Nat) (o : List ri_Ob) (r : Option ri_Rs) : Option ri_Rs := match r with
  | some (l2, c2, s2, o2) => some (l2, c + c2, s + s2, o ++ o2)
  | none => none
theorem ri_more_s {c s : Nat} {o : List ri_Ob} {r : Option ri_Rs} {x : ri_Rs} (h : ri_more c s o r = some x) : ∃ r2, r = some r2 ∧ x.1 = r2.1 ∧ x.2.1 = c + r2.2.1 ∧ x.2.2.1 = s + r2.2.2.1 ∧ x.2.2.2 = o ++ r2.2.2.2 := by
  unfold ri_more at h
  split at h
  · cases h; exact ⟨_, rfl, rfl, rfl, rfl, rfl⟩
  · cases h
/-- a local less -/
def ri_ers (lv : List (Nat × Jvm.Term)) (i : Nat) : List (Nat × Jvm.Term) := lv.filter (fun q => !(q.1 == i) && !(q.1 + 1 == i && ri_wide q.2))
/-- who catches it -/
def ri_find (G : ri_Tb) (M : ri_Mt) (pc : Nat) (E : String) : List (Nat × Nat × Nat × Nat) → Option (Option Nat)
  | [] => some none
  | (a, b, h, ct) :: l => if a ≤ pc ∧ pc < b then (match ri_cp G M ct with
    | some (5, _, _, nm) => match (ri_nc G).find? (fun q => q.1 == E && q.2.1 == nm) with
      | some q => if ct = 0 then none else if q.2.2 = true then some (some h) else ri_find G M pc E l
      | none => none
    | _ => none) else ri_find G M pc E l
/-- at a handler: the exception goes into a local and is forgotten -/
def ri_catch (M : ri_Mt) (K : ri_K) (hp : Nat) (lv : List (Nat × Jvm.Term)) (cs : List ri_Cd) (mem : ri_Me) : Option ri_Rs := match (ri_co M)[hp]? with
  | some (some (.astore k, 2)) => if k < ri_mx M then K (hp + 2) (ri_ers lv k) [] cs mem else none
  | some (some (.astore_n k, 1)) => if (k : Nat) < ri_mx M then K (hp + 1) (ri_ers lv k) [] cs mem else none
  | _ => none
/-- behind a call -/
def ri_after (G : ri_Tb) (M : ri_Mt) (K : ri_K) (pc : Nat) (lv : List (Nat × Jvm.Term)) (rest : List Jvm.Term) (x : ri_Lf) : Option ri_Rs := match x.2.2 with
  | .inl none => K (pc + 3) lv rest x.1 x.2.1
  | .inl (some t) => K (pc + 3) lv (t :: rest) x.1 x.2.1
  | .inr E => match ri_find G M pc E (ri_hh M) with
    | some none => some ([(x.1, x.2.1, .inr E)], 0, 0, [])
    | some (some hp) => ri_catch M K hp lv x.1 x.2.1
    | none => none
/-- a receiver of that class -/
def ri_recv (G : ri_Tb) (cls : String) (mem : ri_Me) : List Jvm.Term → Bool
  | .index k :: _ => match mem[k]? with
    | some (.inl (ci, _)) => match (ri_cls G)[ci]? with
      | some r => r.1 == cls
      | none => false
    | _ => false
  | _ => false
def ri_nn (sort n : Nat) : Nat := if sort = 1 then n else n + 1
/-- the methods that throw, that read a text: they want more room -/
def ri_hi (M : ri_Mt) : Bool := (ri_pn M == 7 && ["add", "addBy", "begin", "blocksAt", "byStart", "cheapestMove", "count", "gap", "join", "move", "need", "needFree", "needKindAndMinimum", "needMove", "needNoMove", "needNumberLeft", "needRule", "needSector", "needSizeFor", "nextStep", "ofKind", "part", "place", "restoreState", "run", "set", "setMinimum", "split", "turnBack"].contains (ri_nm M).name) || (ri_nm M).name == "isWord"
/-- the length of a text out of the table of links, a char of it -/
def ri_strm (G : ri_Tb) (M : ri_Mt) (K : ri_K) (kd sort pc : Nat) (lv : List (Nat × Jvm.Term)) (st : List Jvm.Term) (cs : List ri_Cd) (mem : ri_Me) : Option ri_Rs := match st with
  | .string c i :: r => if kd = 16 ∧ sort = 0 ∧ c = ri_own M ∧ r.length ≤ 4 ∧ ri_hi M = true then (match ri_cp G M i with
    | some (9, _, _, tx) => K (pc + 3) lv (ri_ci (Int32.ofNat tx.toList.length) :: r) cs mem
    | _ => none) else none
  | .int v :: .string c i :: r => if kd = 17 ∧ sort = 0 ∧ c = ri_own M ∧ r.length ≤ 4 ∧ ¬ v < 0 ∧ ri_hi M = true then (match ri_cp G M i with
    | some (9, _, _, tx) => match tx.toList[v.toNatClampNeg]? with
      | some ch => K (pc + 3) lv (ri_ci (Int32.ofNat ch.toNat) :: r) cs mem
      | none => none
    | _ => none) else none
  | _ => none
/-- a call: sort 0 of an object, 1 static, 2 a constructor -/
def ri_inv (G : ri_Tb) (call : ri_Call) (M : ri_Mt) (K : ri_K) (sort pc idx : Nat) (lv : List (Nat × Jvm.Term)) (st : List Jvm.Term) (cs : List ri_Cd) (mem : ri_Me) : Option ri_Rs := match ri_cp G M idx with
  | some (kd, mi, n, _) =>
    if kd = 20 + sort ∨ kd = 30 + sort then (match (ri_mts G)[mi]? with
      | some M' =>
        if (kd = 21 ∨ (ri_hh M').isEmpty = true) ∧ ri_nn sort n ≤ st.length ∧ (st.drop (ri_nn sort n)).length ≤ 4 ∧ (sort = 1 ∨ ri_recv G (ri_nm M').cls mem (st.take (ri_nn sort n)).reverse = true) then (match call mi (st.take (ri_nn sort n)).reverse cs mem with
          | some (L, mc, ms, ob) => ri_more mc ms ob (ri_seq (ri_after G M K pc lv (st.drop (ri_nn sort n))) L)
          | none => none) else none
      | none => none)
    else if kd = 7 then (match st with
      | .index _ :: r => if sort = 2 ∧ r.length ≤ 4 then K (pc + 3) lv r cs mem else none
      | _ => none)
    else if kd = 10 then (match st with
      | y :: x :: r => if sort = 1 ∧ ri_k x = 0 ∧ ri_k y = 0 ∧ r.length ≤ 4 then ri_br cs (1, x, y, true) (fun cs' => K (pc + 3) lv (y :: r) cs' mem) (fun cs' => K (pc + 3) lv (x :: r) cs' mem) else none
      | _ => none)
    else if kd = 11 then (match st with
      | y :: x :: r => if sort = 1 ∧ ri_k x = 0 ∧ ri_k y = 0 ∧ r.length ≤ 4 then ri_br cs (1, y, x, true) (fun cs' => K (pc + 3) lv (y :: r) cs' mem) (fun cs' => K (pc + 3) lv (x :: r) cs' mem) else none
      | _ => none)
    else if kd = 16 ∨ kd = 17 then ri_strm G M K kd sort pc lv st cs mem
    else none
  | none => none
/-- new X(text), thrown -/
def ri_thr0 (G : ri_Tb) (M : ri_Mt) (pc ik : Nat) (st : List Jvm.Term) (cs : List ri_Cd) (mem : ri_Me) : Option ri_Rs := match ri_cp G M ik, (ri_co M)[pc + 3]?, (ri_co M)[pc + 4]? with
  | some (5, _, _, E), some (some (.dup, 1)), some (some (.ldc is, 2)) => match (ri_co M)[pc + 6]?, (ri_co M)[pc + 9]? with
    | some (some (.invokespecial ic, 3)), some (some (.athrow, 1)) => match ri_cp G M is, ri_cp G M ic with
      | some (9, _, _, _), some (kq, _, _, E2) => if (kq = 13 ∨ kq = 15) ∧ E2 = E ∧ st.length ≤ 4 ∧ (ri_hh M).isEmpty = true then some ([(cs, mem, .inr E)], 1, 6, []) else none
      | _, _ => none
    | _, _ => none
  | some (5, _, _, E), some (some (.dup, 1)), some (some (.ldc_w is, 3)) => match (ri_co M)[pc + 7]?, (ri_co M)[pc + 10]? with
    | some (some (.invokespecial ic, 3)), some (some (.athrow, 1)) => match ri_cp G M is, ri_cp G M ic with
      | some (9, _, _, _), some (kq, _, _, E2) => if (kq = 13 ∨ kq = 15) ∧ E2 = E ∧ st.length ≤ 4 ∧ (ri_hh M).isEmpty = true then some ([(cs, mem, .inr E)], 1, 6, []) else none
      | _, _ => none
    | _, _ => none
  | _, _, _ => none
def ri_thr (G : ri_Tb) (M : ri_Mt) (pc ik : Nat) (st : List Jvm.Term) (cs : List ri_Cd) (mem : ri_Me) : Option ri_Rs := if ri_hi M = true then ri_thr0 G M pc ik st cs mem else none
def ri_ans (M : ri_Mt) (st : List Jvm.Term) (cs : List ri_Cd) (mem : ri_Me) (ok : Jvm.Term → Option FieldType → Bool) : Option ri_Rs := match st with
  | [t] => if ok t (ri_rt M) = true then some ([(cs, mem, .inl (some t))], 0, 0, []) else none
  | _ => none
def ri_okI (t : Jvm.Term) : Option FieldType → Bool
  | some .int => ri_k t == 0
  | some .boolean => ri_fit .boolean t
  | _ => false
def ri_okA (t : Jvm.Term) : Option FieldType → Bool
  | some (.object _) => ri_k t == 2 || ri_k t == 3
  | some (.array _) => ri_k t == 2 || ri_k t == 3
  | _ => false
def ri_okD (t : Jvm.Term) : Option FieldType → Bool
  | some .double => ri_k t == 4
  | _ => false
def ri_okF (t : Jvm.Term) : Option FieldType → Bool
  | some .float => ri_k t == 5
  | _ => false
def ri_ctl (G : ri_Tb) (call : ri_Call) (M : ri_Mt) (K : ri_K) (pc : Nat) (i : Instr) (len : Nat) (lv : List (Nat × Jvm.Term)) (st : List Jvm.Term) (cs : List ri_Cd) (mem : ri_Me) : Option ri_Rs := match i with
  | .goto off => match ri_tg pc off with
    | some t => if len = 3 then K t lv st cs mem else none
    | none => none
  | .ifCond c off => match st, ri_tg pc off with
    | a :: r, some t => if ri_k a = 0 ∧ len = 3 then ri_br cs (ri_cnd c a (.int 0)) (fun cs' => K t lv r cs' mem) (fun cs' => K (pc + 3) lv r cs' mem) else none
    | _, _ => none
  | .if_icmp c off => match st, ri_tg pc off with
    | b :: a :: r, some t => if ri_k a = 0 ∧ ri_k b = 0 ∧ len = 3 then ri_br cs (ri_cnd c a b) (fun cs' => K t lv r cs' mem) (fun cs' => K (pc + 3) lv r cs' mem) else none
    | _, _ => none
  | .ifnull off => match st, ri_tg pc off with
    | a :: r, some t => if len = 3 then (if ri_k a = 3 then K t lv r cs mem else if ri_k a = 2 then K (pc + 3) lv r cs mem else none) else none
    | _, _ => none
  | .ifnonnull off => match st, ri_tg pc off with
    | a :: r, some t => if len = 3 then (if ri_k a = 2 then K t lv r cs mem else if ri_k a = 3 then K (pc + 3) lv r cs mem else none) else none
    | _, _ => none
  | .tableswitch d lo hi offs => match st with
    | x :: r => if ri_k x = 0 ∧ hi = lo + (offs.size : Int) - 1 ∧ -2147483648 ≤ lo ∧ hi < 2147483648 then ri_chain x pc (fun t cs' => K t lv r cs' mem) d (offs.toList.mapIdx (fun j o => (lo + (j : Int), o))) cs else none
    | _ => none
  | .lookupswitch d ps => match st with
    | x :: r => if ri_k x = 0 ∧ (ps.toList.zip (ps.toList.drop 1)).all (fun (a, next) => a.1 < next.1) = true ∧ ps.toList.all (fun q => decide (-2147483648 ≤ q.1 ∧ q.1 < 2147483648)) = true then ri_chain x pc (fun t cs' => K t lv r cs' mem) d ps.toList cs else none
    | _ => none
  | .ireturn => if len = 1 then ri_ans M st cs mem ri_okI else none
  | .areturn => if len = 1 then ri_ans M st cs mem ri_okA else none
  | .dreturn => if len = 1 then ri_ans M st cs mem ri_okD else none
  | .freturn => if len = 1 then ri_ans M st cs mem ri_okF else none
  | .return_ => match st, ri_rt M with
    | [], none => if len = 1 then some ([(cs, mem, .inl none)], 0, 0, []) else none
    | _, _ => none
  | .new ik => if len = 3 then ri_thr G M pc ik st cs mem else none
  | .invokevirtual idx => if len = 3 then ri_inv G call M K 0 pc idx lv st cs mem else none
  | .invokestatic idx => if len = 3 then ri_inv G call M K 1 pc idx lv st cs mem else none
  | .invokespecial idx => if len = 3 then ri_inv G call M K 2 pc idx lv st cs mem else none
  | _ => none
/-- one step, and what follows -/
def ri_one (G : ri_Tb) (call : ri_Call) (M : ri_Mt) (K : ri_K) (pc : Nat) (lv : List (Nat × Jvm.Term)) (st : List Jvm.Term) (cs : List ri_Cd) (mem : ri_Me) : Option ri_Rs := match (ri_co M)[pc]? with
  | some (some (i, len)) => match ri_pure (ri_mx M) i lv st with
    | some (len', lv', st') => if len' = len then K (pc + len) lv' st' cs mem else none
    | none => match ri_heap G M cs i st mem with
      | some x => if x.1 = len then ri_more x.2.2.2.1 x.2.2.2.2.1 x.2.2.2.2.2 (K (pc + len) lv x.2.1 cs x.2.2.1) else none
      | none => match ri_foc i st with
        | some (a, t, r) => if ri_k t = 0 ∧ ri_cst t = false ∧ (ri_bd cs t).2 < (ri_bd cs t).1 + 700 then ri_vals t (fun y cs' => K pc lv (a ++ y :: r) cs' mem) ((ri_bd cs t).2 - (ri_bd cs t).1 + 1).toNat (ri_bd cs t).1 cs else none
        | none => ri_ctl G call M K pc i len lv st cs mem
  | _ => none
/-- as many steps; then B -/
noncomputable def ri_runB (G : ri_Tb) (call : ri_Call) (M : ri_Mt) (B : ri_K) (f : Nat) : ri_K := Nat.rec (motive := fun _ => ri_K) B (fun _ K pc lv st cs mem => ri_one G call M K pc lv st cs mem) f
abbrev ri_B0 : ri_K := fun _ _ _ _ _ => none
noncomputable abbrev ri_run (G : ri_Tb) (call : ri_Call) (M : ri_Mt) (f : Nat) : ri_K := ri_runB G call M ri_B0 f
theorem ri_runB_S {G : ri_Tb} {call : ri_Call} {M : ri_Mt} {B : ri_K} {f pc : Nat} {lv : List (Nat × Jvm.Term)} {st : List Jvm.Term} {cs : List ri_Cd} {mem : ri_Me} : ri_runB G call M B (f + 1) pc lv st cs mem = ri_one G call M (ri_runB G call M B f) pc lv st cs mem := rfl
/-- two lists, two cells, two worlds alike -/
def ri_eqL : List Jvm.Term → List Jvm.Term → Bool
  | [], [] => true
  | a :: l, b :: r => ri_eqT a b && ri_eqL l r
  | _, _ => false
def ri_eqP : List (Nat × Jvm.Term) → List (Nat × Jvm.Term) → Bool
  | [], [] => true
  | a :: l, b :: r => a.1 == b.1 && (ri_eqT a.2 b.2 && ri_eqP l r)
  | _, _ => false
def ri_eqC : ri_Ce → ri_Ce → Bool
  | .inl (c, f), .inl (c2, f2) => c == c2 && ri_eqL f f2
  | .inr (t, n, d, o), .inr (t2, n2, d2, o2) => t == t2 && (n == n2 && (ri_eqT d d2 && ri_eqP o o2))
  | _, _ => false
def ri_eqM : ri_Me → ri_Me → Bool
  | [], [] => true
  | a :: l, b :: r => ri_eqC a b && ri_eqM l r
  | _, _ => false
theorem ri_eqL_s : ∀ (a b : List Jvm.Term), ri_eqL a b = true → a = b
  | [], [], _ => rfl
  | a :: l, b :: r, h => by
    simp only [ri_eqL, Bool.and_eq_true] at h
    rw [ri_eqT_s _ _ h.1, ri_eqL_s l r h.2]
  | [], _ :: _, h => by cases h
  | _ :: _, [], h => by cases h
theorem ri_eqP_s : ∀ (a b : List (Nat × Jvm.Term)), ri_eqP a b = true → a = b
  | [], [], _ => rfl
  | a :: l, b :: r, h => by
    simp only [ri_eqP, Bool.and_eq_true, beq_iff_eq] at h
    rw [Prod.ext h.1 (ri_eqT_s _ _ h.2.1), ri_eqP_s l r h.2.2]
  | [], _ :: _, h => by cases h
  | _ :: _, [], h => by cases h
theorem ri_eqC_s (a b : ri_Ce) (h : ri_eqC a b = true) : a = b := by
  unfold ri_eqC at h
  split at h
  · simp only [Bool.and_eq_true, beq_iff_eq] at h
    rw [h.1, ri_eqL_s _ _ h.2]
  · simp only [Bool.and_eq_true, beq_iff_eq] at h
    rw [h.1, h.2.1, ri_eqT_s _ _ h.2.2.1, ri_eqP_s _ _ h.2.2.2]
  · cases h
theorem ri_eqM_s : ∀ (a b : ri_Me), ri_eqM a b = true → a = b
  | [], [], _ => rfl
  | a :: l, b :: r, h => by
    simp only [ri_eqM, Bool.and_eq_true] at h
    rw [ri_eqC_s _ _ h.1, ri_eqM_s l r h.2]
  | [], _ :: _, h => by cases h
  | _ :: _, [], h => by cases h
/-- stop at this very place -/
def ri_stop (pc0 : Nat) (lv0 : List (Nat × Jvm.Term)) (mem0 : ri_Me) (r : ri_Rs) : ri_K := fun pc lv st cs mem => if (pc == pc0 && (ri_eqP lv lv0 && (st.isEmpty && (cs.isEmpty && ri_eqM mem mem0)))) = true then some r else none
theorem ri_stop_s {pc0 pc : Nat} {lv0 lv : List (Nat × Jvm.Term)} {mem0 mem : ri_Me} {r rs : ri_Rs} {st : List Jvm.Term} {cs : List ri_Cd} (h : ri_stop pc0 lv0 mem0 r pc lv st cs mem = some rs) : pc = pc0 ∧ lv = lv0 ∧ st = [] ∧ cs = [] ∧ mem = mem0 ∧ rs = r := by
  unfold ri_stop at h
  split at h
  · next hk =>
    cases h
    simp only [Bool.and_eq_true, beq_iff_eq] at hk
    exact ⟨hk.1, ri_eqP_s _ _ hk.2.1, List.isEmpty_iff.mp hk.2.2.1, List.isEmpty_iff.mp hk.2.2.2.1, ri_eqM_s _ _ hk.2.2.2.2, rfl⟩
  · cases h
/-- the locals with which a method begins -/
def ri_args : Nat → List Jvm.Term → List (Nat × Jvm.Term)
  | _, [] => []
  | i, t :: ts => (i, t) :: ri_args (if ri_wide t = true then i + 2 else i + 1) ts
noncomputable def ri_call (G : ri_Tb) (fuel d : Nat) : ri_Call := Nat.rec (motive := fun _ => ri_Call) (fun _ _ _ _ => none) (fun k C mi args cs mem => match (ri_mts G)[mi]? with
    | some M => if ri_lw M = false ∧ (args.map (fun t => if ri_wide t = true then 2 else 1)).sum ≤ ri_mx M ∧ (ri_hi M = true → 5 ≤ k) then ri_run G C M fuel 0 (ri_args 0 args) [] cs mem else none
    | none => none) d
theorem ri_call_0 {G : ri_Tb} {fuel mi : Nat} {args : List Jvm.Term} {cs : List ri_Cd} {mem : ri_Me} : ri_call G fuel 0 mi args cs mem = none := rfl
theorem ri_call_S {G : ri_Tb} {fuel d mi : Nat} {args : List Jvm.Term} {cs : List ri_Cd} {mem : ri_Me} : ri_call G fuel (d + 1) mi args cs mem = (match (ri_mts G)[mi]? with
    | some M => if ri_lw M = false ∧ (args.map (fun t => if ri_wide t = true then 2 else 1)).sum ≤ ri_mx M ∧ (ri_hi M = true → 5 ≤ d) then ri_run G (ri_call G fuel d) M fuel 0 (ri_args 0 args) [] cs mem else none
    | none => none) := rfl
end RIR
end
section
/-! RI: the run is sound -/
section RIS
def ri_warm : Jvm.Cond → Bool
  | .fieldLinkNest _ _ _ _ _ _ => true
  | .methodLinkNest _ _ _ _ => true
  | .castable _ _ => true
  | .declares _ => true
  | .arrayOver (.object _) => true
  | w => goodWord w
theorem ri_warm_s {w : Jvm.Cond} {s U : State} (hw : ri_warm w = true) (hW : s.WarmedH U.vm) (h : ∀ a : Array Value, w.before a s = true) : ∀ a : Array Value, w.before a U = true := by
  intro a
  by_cases hg : goodWord w = true
  · exact word_at hW (good_of_word hg) (h #[])
  · unfold ri_warm at hw
    split at hw
    · exact va_Nw.use rfl (va_Nw.warmF hW (h #[]))
    · exact va_Nw.use rfl (va_Nw.warmM hW (h #[]))
    · exact va_Nw.use rfl (va_Nw.warmC hW (h #[]))
    · exact va_Nw.use rfl (va_Nw.warmD hW (h #[]))
    · exact va_AO.use (va_AO.moved hW.alike (va_AO.of (h #[])))
    · exact absurd hw hg
/-- what holds of the tables at a state -/
def ri_St (ALL : List Jvm.Cond) (STR : List (String × Nat × String)) (G : ri_Tb) (D : va_G) (tyc : Nat → ClassId) (sa : String → Nat → Nat) (A : Nat → Prop) (U : State) : Prop :=
  (∀ w ∈ ALL, ∀ a : Array Value, w.before a U = true) ∧ va_K D (ri_cls G) (ri_tys (ri_aty G) tyc) U ∧ (∀ q ∈ STR, vk_R q.1 q.2.1 q.2.2 (sa q.1 q.2.1) U) ∧ vx_Zq Bundle.tN "UNASSIGNED_STACK" Bundle.steD A U U.heap ∧ vx_Zq Bundle.tN "SUPPRESSED_SENTINEL" Bundle.listD A U U.heap ∧ (∀ q ∈ ri_nc G, q.2.2 = false → va_Nc q.1 q.2.1 U) ∧ sx_S STR sa A U
theorem ri_St_go {ALL : List Jvm.Cond} {STR : List (String × Nat × String)} {G : ri_Tb} {D : va_G} {tyc : Nat → ClassId} {sa : String → Nat → Nat} {A B : Nat → Prop} {s U : State} (hwm : ∀ w ∈ ALL, ri_warm w = true) (h : ri_St ALL STR G D tyc sa A s) (hW : s.WarmedH U.vm)
    (hk : ∀ q : Nat, q < s.heap.size → ¬ A q → U.heap[q]? = s.heap[q]?) (hAB : ∀ q, B q → A q) : ri_St ALL STR G D tyc sa B U :=
  ⟨fun w hw => ri_warm_s (hwm w hw) hW (h.1 w hw), va_K.moved hW.alike h.2.1, fun q hq => vk_R.warm hW (h.2.2.1 q hq), vx_Zq.narrow (vx_Zq.moved hW.alike (vx_Zq.kept h.2.2.2.1 hk)) hAB, vx_Zq.narrow (vx_Zq.moved hW.alike (vx_Zq.kept h.2.2.2.2.1 hk)) hAB, fun q hq h0 => va_Nc.moved hW.alike (h.2.2.2.2.2.1 q hq h0), sx_S_go h.2.2.2.2.2.2 hW.alike hk hAB⟩
section RIS1
variable (G : ri_Tb) (D : va_G) (tyc : Nat → ClassId) (A : Nat → Prop) (ρ : Nat → Int32) (sa : String → Nat → Nat) (n0 : Nat) (ad0 : Nat → Nat)
/-- a way out of a method, at a state -/
def ri_At (lf : ri_Lf) (ad : Nat → Nat) (st t : State) : Prop := ri_ag n0 ad0 ad ∧ (∀ q ∈ lf.1, ri_sat ρ q) ∧ n0 ≤ lf.2.1.length ∧ ri_okM lf.2.1.length lf.2.1 ∧ va_P D (ri_cls G) (ri_w ρ sa (ri_aty G) tyc ad lf.2.1) t.heap ∧ va_D A (ri_w ρ sa (ri_aty G) tyc ad lf.2.1) ∧ va_F A st t
def ri_Qc (LT : List ri_Lf) : Array Value → State → Outcome → State → Prop := fun _ st o t => ∃ lf ∈ LT, ∃ (tm : Option Jvm.Term) (ad : Nat → Nat), lf.2.2 = .inl tm ∧ o = .returned (tm.map (ri_cv ρ sa ad)) ∧ (∀ z, tm = some z → ri_ok lf.2.1.length z) ∧ ri_At G D tyc A ρ sa n0 ad0 lf ad st t
def ri_XC (LT : List ri_Lf) : String → State → State → Prop := fun E st t => ∃ lf ∈ LT, ∃ (ad : Nat → Nat), lf.2.2 = .inr E ∧ ri_At G D tyc A ρ sa n0 ad0 lf ad st t
end RIS1
def ri_Pc (ALL : List Jvm.Cond) (STR : List (String × Nat × String)) (G : ri_Tb) (D : va_G) (tyc : Nat → ClassId) (ρ : Nat → Int32) (sa : String → Nat → Nat) (ad : Nat → Nat) (sz : Nat) (args : List Jvm.Term) (mem : ri_Me) : Array Value → State → Prop := fun v U =>
  v = (args.map (ri_cv ρ sa ad)).toArray ∧ U.heap.size = sz ∧ va_P D (ri_cls G) (ri_w ρ sa (ri_aty G) tyc ad mem) U.heap ∧ va_D (fun _ => True) (ri_w ρ sa (ri_aty G) tyc ad mem) ∧ ri_St ALL STR G D tyc sa (va_A (ri_w ρ sa (ri_aty G) tyc ad mem) sz) U
theorem ri_Pc_blind {ALL : List Jvm.Cond} {STR : List (String × Nat × String)} {G : ri_Tb} {D : va_G} {tyc : Nat → ClassId} {ρ : Nat → Int32} {sa : String → Nat → Nat} {ad : Nat → Nat} {sz : Nat} {args : List Jvm.Term} {mem : ri_Me} (hwm : ∀ w ∈ ALL, ri_warm w = true) : FrameBlind (ri_Pc ALL STR G D tyc ρ sa ad sz args mem) := by
  intro a U g mk q
  obtain ⟨q1, q2, q3, q4, q5⟩ := q
  exact ⟨q1, q2, q3, q4, ri_St_go (U := U.calling g mk a) hwm q5 (State.WarmedH.refl U) (fun _ _ _ => rfl) (fun _ h => h)⟩
/-- the rooms: at depth d -/
def ri_rm (d LC mc ms : Nat) : Room := { frames := d + 1, cells := mc, slots := ms, locals := 100 + d * LC }
def ri_Con (l : Launch) (ALL : List Jvm.Cond) (STR : List (String × Nat × String)) (G : ri_Tb) (LC d : Nat) (mi : Nat) (args : List Jvm.Term) (cs : List ri_Cd) (mem : ri_Me) (rs : ri_Rs) : Prop :=
  ∀ M, (ri_mts G)[mi]? = some M → ∀ (D : va_G) (tyc : Nat → ClassId) (ρ : Nat → Int32) (sa : String → Nat → Nat) (ad : Nat → Nat) (sz : Nat), (∀ q ∈ cs, ri_sat ρ q) → ri_okM mem.length mem → (∀ t ∈ args, ri_ok mem.length t) → (∀ o ∈ rs.2.2.2, ri_obs ρ o) →
    vx_Met l (ri_nm M) [ri_hw M] (ri_rm d LC rs.2.1 rs.2.2.1) (ri_Pc ALL STR G D tyc ρ sa ad sz args mem)
      (ri_Qc G D tyc (va_A (ri_w ρ sa (ri_aty G) tyc ad mem) sz) ρ sa mem.length ad rs.1) (ri_XC G D tyc (va_A (ri_w ρ sa (ri_aty G) tyc ad mem) sz) ρ sa mem.length ad rs.1) rs.2.1 rs.2.2.1 (va_A (ri_w ρ sa (ri_aty G) tyc ad mem) sz)
section RIS2
variable {p : Program} {l : Launch} {e : Env} {R : Room} {s : State} {m : MethodId} {args : Array Value} {below : List Frame} {meth : Method} {c : Code} {H : Heap} {locs : List Loc} {cells slots : Nat} {Q : State → Prop}
variable {mc ms : Nat} {free : Addr → Prop} {A : Nat → Prop} {H0 : Heap} {pc : Nat} {ls : Array Slot} {st0 rest : List Value}
/-- behind a call that answers or throws -/
theorem ri_use {Qa : State → Outcome → State → Prop} {XC : String → State → State → Prop} (hr : vx_Run p l e R s m args below meth c H locs cells slots mc ms (F0 m pc ls st0) rest Qa XC free)
    (kk : ∀ (v : Option Value) (st₀ t : State) (H1 : Heap) (L : List Loc), st₀.heap = H → t.heap = H1 → s.vm.Alike t.vm → (∀ q ∈ L, free q.base) → Qa st₀ (.returned v) t → W p l e R s m args below meth c H1 (locs ++ L) (cells + mc) (slots + ms) Q (F0 m (pc + 3) ls (v.toList ++ rest)))
    (kx : ∀ (q : Addr) (E : String) (ce : Cell) (st₀ t : State) (H1 : Heap) (L : List Loc), st₀.heap = H → t.heap = H1 → s.vm.Alike t.vm → (∀ q ∈ L, free q.base) → XC E st₀ t → H1[q]? = some ce → ce.vm = .none → s.vm.findClass E = some ce.cls → vx_W p l e R s m args below meth c H1 (locs ++ L) (cells + mc) (slots + ms) Q (F0 m pc ls rest) q) :
    W p l e R s m args below meth c H locs cells slots Q (F0 m pc ls st0) := by
  intro T hT X
  rcases hr T hT X with ⟨v, st₀, t, T', L, h0, X', hL, e1, e2, hq, st⟩ | ⟨q, st₀, t, T', L, E, ce, h0, X', hL, e1, e2, hq, hce, hcv, hcl, st⟩
  · obtain ⟨t2, a1, b1⟩ := kk v st₀ t T'.heap L h0 e1.symm (by rw [← e2]; exact X'.warmed.alike) hL hq T' rfl X'
    exact ⟨t2, st t2 a1, b1⟩
  · obtain ⟨t2, a1, b1⟩ := kx q E ce st₀ t T'.heap L h0 e1.symm (by rw [← e2]; exact X'.warmed.alike) hL hq (by rw [e1]; exact hce) hcv hcl T' rfl X'
    exact ⟨t2, st.trans a1, b1⟩
end RIS2
end RIS
end
section
/-! RI: forks, jumps, answers, exceptions and calls are sound, if what follows is -/
section RIX
/-- what holds of a method that is walked, for its end and its calls too -/
def ri_Cx (l : Launch) (ALL : List Jvm.Cond) (STR : List (String × Nat × String)) (sa : String → Nat → Nat) (G : ri_Tb) (M : ri_Mt) (D : va_G) (tyc : Nat → ClassId) (A : Nat → Prop) (p : Program) (s : State) (m : MethodId) (args : Array Value) (meth : Method) (c : Code) (R : Room) (LC d mcT msT : Nat) : Prop :=
  ri_Ctx ALL STR sa G M D tyc A p s m args meth c ∧ ri_St ALL STR G D tyc sa A s ∧ (∀ w ∈ ALL, ri_warm w = true) ∧ meth.sig.returnType = ri_rt M ∧ meth.locks = false ∧ c.exceptionTable.toList = tableOf (ri_hh M) ∧ l.stackTraces = false ∧ R = ri_rm (d + 1) LC mcT msT ∧ (∀ i ∈ ri_mts G, 19 + ri_mx i ≤ LC) ∧ (∀ M2 ∈ ri_mts G, ri_own M2 = (ri_nm M2).cls ∧ ri_hw M2 ∈ ALL ∧ goodWord (ri_hw M2) = true ∧ Jvm.Cond.initialized (ri_nm M2).cls ∈ ALL ∧ Bundle.fit (ri_nm M2).cls = true) ∧ (∀ q ∈ ri_nc G, q.2.2 = true → Jvm.Cond.castable q.1 q.2.1 ∈ ALL) ∧ (ri_hi M = true → 5 ≤ d)
section RIX1
variable (p : Program) (l : Launch) (e : Env) (R : Room) (s : State) (m : MethodId) (args : Array Value) (below : List Frame) (meth : Method) (c : Code) (G : ri_Tb) (M : ri_Mt) (D : va_G) (tyc : Nat → ClassId) (A : Nat → Prop) (ρ : Nat → Int32) (sa : String → Nat → Nat) (n0 : Nat) (ad0 : Nat → Nat) (LT : List ri_Lf) (mcT msT : Nat)
/-- a place of the walk from which all goes to one of the ends -/
def ri_So (pc : Nat) (lv : List (Nat × Jvm.Term)) (st : List Jvm.Term) (cs : List ri_Cd) (mem : ri_Me) (rs : ri_Rs) : Prop :=
  ∀ (ad : Nat → Nat) (ls : Array Slot) (H : Heap) (locs : List Loc) (cells slots : Nat), ri_ag n0 ad0 ad → n0 ≤ mem.length → lv_has ls (ri_mx M) (ri_lc ρ sa ad lv) → va_P D (ri_cls G) (ri_w ρ sa (ri_aty G) tyc ad mem) H → va_D A (ri_w ρ sa (ri_aty G) tyc ad mem) → va_S A s.heap H locs → ri_okM mem.length mem → (∀ q ∈ lv, ri_ok mem.length q.2) → (∀ t ∈ st, ri_ok mem.length t) → (∀ q ∈ cs, ri_sat ρ q) → (∀ x ∈ rs.1, x ∈ LT) → cells + rs.2.1 ≤ mcT → slots + rs.2.2.1 ≤ msT → (∀ o ∈ rs.2.2.2, ri_obs ρ o) →
    W p l e R s m args below meth c H locs cells slots (vx_MQ below (ri_Qc G D tyc A ρ sa n0 ad0 LT) (ri_XC G D tyc A ρ sa n0 ad0 LT) args s mcT msT A) (F0 m pc ls (st.map (ri_cv ρ sa ad)))
end RIX1
section RIX2
variable {p : Program} {l : Launch} {e : Env} {R : Room} {s : State} {m : MethodId} {args : Array Value} {below : List Frame} {meth : Method} {c : Code}
variable {ALL : List Jvm.Cond} {STR : List (String × Nat × String)} {G : ri_Tb} {M : ri_Mt} {D : va_G} {tyc : Nat → ClassId} {A : Nat → Prop}
variable {ρ : Nat → Int32} {sa : String → Nat → Nat} {n0 LC d mcT msT : Nat} {ad0 : Nat → Nat} {LT : List ri_Lf} {lv : List (Nat × Jvm.Term)} {st : List Jvm.Term} {mem : ri_Me} {pc idx len : Nat} {cs : List ri_Cd} {rs r1 : ri_Rs} {K : ri_K} {call : ri_Call}
theorem ri_So_le (h : ri_So p l e R s m args below meth c G M D tyc A ρ sa n0 ad0 LT mcT msT pc lv st cs mem r1) (hl : ri_le r1 rs) : ri_So p l e R s m args below meth c G M D tyc A ρ sa n0 ad0 LT mcT msT pc lv st cs mem rs :=
  fun ad ls H locs cells slots h1 h2 h3 h4 h5 h6 h7 h8 h9 h10 h11 h12 h13 h14 => h ad ls H locs cells slots h1 h2 h3 h4 h5 h6 h7 h8 h9 h10 (fun x hx => h11 x (hl.1 x hx)) (Nat.le_trans (Nat.add_le_add_left hl.2.1 _) h12) (Nat.le_trans (Nat.add_le_add_left hl.2.2.1 _) h13) (fun o ho => h14 o (hl.2.2.2 o ho))
theorem ri_sat_eq {a b : Jvm.Term} {v : Bool} : ri_sat ρ (0, a, b, v) ↔ (v = true ↔ ri_iv ρ a = ri_iv ρ b) := Iff.rfl
theorem ri_sat_lt {a b : Jvm.Term} {v : Bool} : ri_sat ρ (1, a, b, v) ↔ (v = true ↔ ri_iv ρ a < ri_iv ρ b) := Iff.rfl
theorem ri_i0 : ri_iv ρ (.int 0) = 0 := rfl
/-- a compare with 0 -/
theorem ri_if_W {cnd : ClassFile.Cond} {off : Int} {t : Nat} {a : Jvm.Term} {r : List Jvm.Term} {H : Heap} {locs : List Loc} {cells slots : Nat} {Q : State → Prop} {ls : Array Slot} {ad : Nat → Nat} (hx : p.tables.exec = Jvm.exec) (hb : c.code = ri_by M) (hd : decode (ri_by M) pc = .ok (.ifCond cnd off, 3)) (ht : (pc : Int) + off = (t : Int)) (ha : ri_k a = 0)
    (kt : ri_sat ρ (ri_cnd cnd a (.int 0)) → W p l e R s m args below meth c H locs cells slots Q (F0 m t ls (r.map (ri_cv ρ sa ad)))) (kf : ¬ ri_sat ρ (ri_cnd cnd a (.int 0)) → W p l e R s m args below meth c H locs cells slots Q (F0 m (pc + 3) ls (r.map (ri_cv ρ sa ad)))) :
    W p l e R s m args below meth c H locs cells slots Q (F0 m pc ls ((a :: r).map (ri_cv ρ sa ad))) := by
  rw [List.map_cons, ri_ivI ha]
  cases cnd with
  | eq => exact lv_if_eq hx hb hd ht (fun h => kt (ri_sat_eq.mpr (by rw [ri_i0]; simp [h]))) (fun h => kf (fun q => h (by have := ri_sat_eq.mp q; rw [ri_i0] at this; exact this.mp rfl)))
  | ne => exact lv_if_ne hx hb hd ht (fun h => kt (ri_sat_eq.mpr (by rw [ri_i0]; simp [h]))) (fun h => kf (fun q => by have := ri_sat_eq.mp q; rw [ri_i0] at this; exact absurd (this.mpr h) (by decide)))
  | lt => exact lv_if_lt hx hb hd ht (fun h => kt (ri_sat_lt.mpr (by rw [ri_i0]; simp [h]))) (fun h => kf (fun q => h (by have := ri_sat_lt.mp q; rw [ri_i0] at this; exact this.mp rfl)))
  | ge => exact lv_if_ge hx hb hd ht (fun h => kt (ri_sat_lt.mpr (by rw [ri_i0]; simp [Int32.not_lt.mpr h]))) (fun h => kf (fun q => h (by have := ri_sat_lt.mp q; rw [ri_i0] at this; exact Int32.not_lt.mp (fun z => absurd (this.mpr z) (by decide)))))
  | gt => exact lv_if_gt hx hb hd ht (fun h => kt (ri_sat_lt.mpr (by rw [ri_i0]; simp [h]))) (fun h => kf (fun q => h (by have := ri_sat_lt.mp q; rw [ri_i0] at this; exact this.mp rfl)))
  | le => exact lv_if_le hx hb hd ht (fun h => kt (ri_sat_lt.mpr (by rw [ri_i0]; simp [Int32.not_lt.mpr h]))) (fun h => kf (fun q => h (by have := ri_sat_lt.mp q; rw [ri_i0] at this; exact Int32.not_lt.mp (fun z => absurd (this.mpr z) (by decide)))))
theorem ri_ic_W {cnd : ClassFile.Cond} {off : Int} {t : Nat} {a b : Jvm.Term} {r : List Jvm.Term} {H : Heap} {locs : List Loc} {cells slots : Nat} {Q : State → Prop} {ls : Array Slot} {ad : Nat → Nat} (hx : p.tables.exec = Jvm.exec) (hb : c.code = ri_by M) (hd : decode (ri_by M) pc = .ok (.if_icmp cnd off, 3)) (ht : (pc : Int) + off = (t : Int)) (ha : ri_k a = 0) (hb2 : ri_k b = 0)
    (kt : ri_sat ρ (ri_cnd cnd a b) → W p l e R s m args below meth c H locs cells slots Q (F0 m t ls (r.map (ri_cv ρ sa ad)))) (kf : ¬ ri_sat ρ (ri_cnd cnd a b) → W p l e R s m args below meth c H locs cells slots Q (F0 m (pc + 3) ls (r.map (ri_cv ρ sa ad)))) :
    W p l e R s m args below meth c H locs cells slots Q (F0 m pc ls ((b :: a :: r).map (ri_cv ρ sa ad))) := by
  rw [List.map_cons, List.map_cons, ri_ivI ha, ri_ivI hb2]
  cases cnd with
  | eq => exact lv_icmp_eq hx hb hd ht (fun h => kt (ri_sat_eq.mpr (by simp [h]))) (fun h => kf (fun q => h ((ri_sat_eq.mp q).mp rfl)))
  | ne => exact lv_icmp_ne hx hb hd ht (fun h => kt (ri_sat_eq.mpr (by simp [h]))) (fun h => kf (fun q => absurd ((ri_sat_eq.mp q).mpr h) (by decide)))
  | lt => exact lv_icmp_lt hx hb hd ht (fun h => kt (ri_sat_lt.mpr (by simp [h]))) (fun h => kf (fun q => h ((ri_sat_lt.mp q).mp rfl)))
  | ge => exact lv_icmp_ge hx hb hd ht (fun h => kt (ri_sat_lt.mpr (by simp [Int32.not_lt.mpr h]))) (fun h => kf (fun q => h (Int32.not_lt.mp (fun z => absurd ((ri_sat_lt.mp q).mpr z) (by decide)))))
  | gt => exact lv_icmp_gt hx hb hd ht (fun h => kt (ri_sat_lt.mpr (by simp [h]))) (fun h => kf (fun q => h ((ri_sat_lt.mp q).mp rfl)))
  | le => exact lv_icmp_le hx hb hd ht (fun h => kt (ri_sat_lt.mpr (by simp [Int32.not_lt.mpr h]))) (fun h => kf (fun q => h (Int32.not_lt.mp (fun z => absurd ((ri_sat_lt.mp q).mpr z) (by decide)))))
/-- a switch -/
theorem ri_chain_s {x : Jvm.Term} {T : Nat → List ri_Cd → Option ri_Rs} {dflt : Int} : ∀ (ps : List (Int × Int)) (cs : List ri_Cd) {rs : ri_Rs}, (∀ q ∈ cs, ri_sat ρ q) → ri_chain x pc T dflt ps cs = some rs →
    ∃ (off : Int) (t : Nat) (cs' : List ri_Cd) (r1 : ri_Rs), ri_tg pc off = some t ∧ T t cs' = some r1 ∧ (∀ q ∈ cs', ri_sat ρ q) ∧ ri_le r1 rs ∧ ((∃ (j : Nat) (v : Int), ps[j]? = some (v, off) ∧ ri_iv ρ x = Int32.ofInt v ∧ ∀ (i : Nat), i < j → ∀ (w o : Int), ps[i]? = some (w, o) → ¬ ri_iv ρ x = Int32.ofInt w) ∨ (off = dflt ∧ ∀ (i : Nat) (w o : Int), ps[i]? = some (w, o) → ¬ ri_iv ρ x = Int32.ofInt w))
  | [], cs, rs, hsat, h => by
    unfold ri_chain at h
    split at h
    · next t ht => exact ⟨dflt, t, cs, rs, ht, h, hsat, ⟨fun _ h => h, Nat.le_refl _, Nat.le_refl _, fun _ h => h⟩, Or.inr ⟨rfl, fun i w o hi => by simp at hi⟩⟩
    · cases h
  | (v, off) :: l, cs, rs, hsat, h => by
    unfold ri_chain at h
    have e1 : ri_iv ρ (ri_ci (Int32.ofInt v)) = Int32.ofInt v := by rw [ri_ci_eq]; rfl
    rcases ri_br_s hsat h with ⟨h1, cs', r1, h2, h3, h4⟩ | ⟨h1, cs', r1, h2, h3, h4⟩
    · split at h2
      · next t ht =>
        refine ⟨off, t, cs', r1, ht, h2, h3, h4, Or.inl ⟨0, v, rfl, ?_, fun i hi => absurd hi (Nat.not_lt_zero i)⟩⟩
        have h5 := (ri_sat_eq.mp h1).mp rfl
        rw [e1] at h5
        exact h5
      · cases h2
    · have hne : ¬ ri_iv ρ x = Int32.ofInt v := fun z => h1 (ri_sat_eq.mpr ⟨fun _ => by rw [e1]; exact z, fun _ => rfl⟩)
      obtain ⟨off2, t, cs2, r2, g1, g2, g3, g4, g5⟩ := ri_chain_s l cs' h3 h2
      refine ⟨off2, t, cs2, r2, g1, g2, g3, ri_le_tr g4 h4, ?_⟩
      rcases g5 with ⟨j, w, k1, k2, k3⟩ | ⟨k1, k2⟩
      · refine Or.inl ⟨j + 1, w, by rw [List.getElem?_cons_succ]; exact k1, k2, fun i hi w2 o2 hi2 => ?_⟩
        cases i with
        | zero => rw [List.getElem?_cons_zero] at hi2; cases hi2; exact hne
        | succ i => rw [List.getElem?_cons_succ] at hi2; exact k3 i (by omega) w2 o2 hi2
      · refine Or.inr ⟨k1, fun i w2 o2 hi2 => ?_⟩
        cases i with
        | zero => rw [List.getElem?_cons_zero] at hi2; cases hi2; exact hne
        | succ i => rw [List.getElem?_cons_succ] at hi2; exact k2 i w2 o2 hi2
/-- an end -/
theorem ri_end {ad : Nat → Nat} {H : Heap} {locs : List Loc} {tm : Option Jvm.Term} {t : State} (hag : ri_ag n0 ad0 ad) (hn : n0 ≤ mem.length) (hP : va_P D (ri_cls G) (ri_w ρ sa (ri_aty G) tyc ad mem) H) (hD : va_D A (ri_w ρ sa (ri_aty G) tyc ad mem)) (hS : va_S A s.heap H locs) (hok : ri_okM mem.length mem) (hst : ∀ z, tm = some z → ri_ok mem.length z) (hsat : ∀ q ∈ cs, ri_sat ρ q) (hm : (cs, mem, .inl tm) ∈ LT) (ht : t.heap = H) :
    ri_Qc G D tyc A ρ sa n0 ad0 LT args s (.returned (tm.map (ri_cv ρ sa ad))) t :=
  ⟨(cs, mem, .inl tm), hm, tm, ad, rfl, rfl, hst, hag, hsat, hn, hok, by rw [ht]; exact hP, hD, hS.F ht⟩
set_option maxHeartbeats 4000000 in
theorem ri_thr_W {ik : Nat} (hC : ri_Cx l ALL STR sa G M D tyc A p s m args meth c R LC d mcT msT) (hcode : ∀ pc i len, (ri_co M)[pc]? = some (some (i, len)) → decode (ri_by M) pc = .ok (i, len)) (h : ri_thr G M pc ik st cs mem = some rs) (hd : decode (ri_by M) pc = .ok (.new ik, 3)) : ri_So p l e R s m args below meth c G M D tyc A ρ sa n0 ad0 LT mcT msT pc lv st cs mem rs := by
  obtain ⟨⟨⟨hx, hb, hml, hown, hin⟩, hM, hcl, hlk, hts, hK, hA, hstr⟩, hSt, hwm, hr, hlocks, hex, hl, rfl, hLC, hco, hcs, hhi⟩ := hC
  intro ad ls H locs cells slots hag hn hl0 hP hD hS hok hlv hst hsat hLT hc1 hs1 hob
  unfold ri_thr at h
  by_cases hhi2 : ri_hi M = true
  case neg => rw [if_neg hhi2] at h; cases h
  rw [if_pos hhi2] at h
  have hhi5 := hhi hhi2
  unfold ri_thr0 at h
  split at h
  · next a5 b5 E is hcp h3 h4 =>
    split at h
    · next ic h6 h9 =>
      split at h
      · next a9 b9 t9 kq a13 b13 E2 hcs9 hci =>
        split at h
        · next hk =>
          cases h
          obtain ⟨hkq, rfl, hlen, hnil⟩ := hk
          have hex0 : ∀ x ∈ c.exceptionTable.toList, False := by rw [hex, List.isEmpty_iff.mp hnil]; intro x hx; cases hx
          obtain ⟨k1, k2, k3⟩ := ri_cp_s hlk hM hcp
          have k9 := ri_cp_s hlk hM hcs9
          have hci9 := ri_cp_s hlk hM hci
          have hsum := ri_sum4 (ρ := ρ) (sa := sa) (ad := ad) hlen
          rcases hkq with rfl | rfl
          · obtain ⟨names, n1, n2, n3⟩ := hci9
            refine vx_throwS (A := A) hx hb hl hown k3 n2 (hts _ k1) (hts _ k2) (hstr _ k9) (fun w hw => hts _ (n3 w hw).1) ?_ hSt.2.2.2.1 hSt.2.2.2.2.1 hS (hl0.1.trans hml.symm) hd (hcode _ _ _ h3) (hcode _ _ _ h4) (hcode _ _ _ h6) (hcode _ _ _ h9) (fun x hx => (hex0 x hx).elim) ?_ ?_ ?_ ?_ hlocks ?_ hS.2.2 hc1 hs1
            · intro w hw
              rcases List.mem_cons.mp hw with rfl | hw
              · rfl
              · rcases List.mem_cons.mp hw with rfl | hw
                · rfl
                · exact (n3 w hw).2
            · show names.length + 3 < d + 1 + 1
              omega
            · show _ ≤ 100 + (d + 1) * LC
              have : 13 * (names.length + 1) + 43 ≤ 82 := by omega
              omega
            · exact hc1
            · exact hs1
            · intro t hvm hsz hq
              refine ⟨(cs, mem, .inr E2), hLT _ List.mem_cons_self, ad, rfl, hag, hsat, hn, hok, va_P.kept hP (fun k q hk => hq q.1 (vx_lt hP hk)), hD, Nat.le_trans hS.1 hsz, fun q h1 h2 => (hq q (Nat.lt_of_lt_of_le h1 hS.1)).trans (hS.2.1 q h1 h2)⟩
          · refine ri_throwX (A := A) hx hb hl hown k3 (by decide +kernel) (names := ["java/lang/Exception"]) (Y0 := "java/lang/RuntimeException") (by intro n hn; rw [List.mem_singleton.mp hn]; decide +kernel) ri_rx0 ri_rx1 ri_rx2 ri_rx5 (hts _ k1) (hts _ k2) (hstr _ k9) (fun w hw => hts _ (hci9 w hw).1) ?_ hSt.2.2.2.1 hSt.2.2.2.2.1 hS (hl0.1.trans hml.symm) hd (hcode _ _ _ h3) (hcode _ _ _ h4) (hcode _ _ _ h6) (hcode _ _ _ h9) (fun x hx => (hex0 x hx).elim) ?_ ?_ ?_ ?_ hlocks ?_ hS.2.2 hc1 hs1
            · intro w hw
              rcases List.mem_cons.mp hw with rfl | hw
              · rfl
              · rcases List.mem_cons.mp hw with rfl | hw
                · rfl
                · exact (hci9 w hw).2
            · show 1 + 4 < d + 1 + 1
              omega
            · show _ ≤ 100 + (d + 1) * LC
              have hl1 : (List.length ["java/lang/Exception"]) = 1 := rfl
              omega
            · exact hc1
            · exact hs1
            · intro t hvm hsz hq
              refine ⟨(cs, mem, .inr E2), hLT _ List.mem_cons_self, ad, rfl, hag, hsat, hn, hok, va_P.kept hP (fun k q hk => hq q.1 (vx_lt hP hk)), hD, Nat.le_trans hS.1 hsz, fun q h1 h2 => (hq q (Nat.lt_of_lt_of_le h1 hS.1)).trans (hS.2.1 q h1 h2)⟩
        · cases h
      · cases h
    · cases h
  · next a5 b5 E is hcp h3 h4 =>
    split at h
    · next ic h6 h9 =>
      split at h
      · next a9 b9 t9 kq a13 b13 E2 hcs9 hci =>
        split at h
        · next hk =>
          cases h
          obtain ⟨hkq, rfl, hlen, hnil⟩ := hk
          have hex0 : ∀ x ∈ c.exceptionTable.toList, False := by rw [hex, List.isEmpty_iff.mp hnil]; intro x hx; cases hx
          obtain ⟨k1, k2, k3⟩ := ri_cp_s hlk hM hcp
          have k9 := ri_cp_s hlk hM hcs9
          have hci9 := ri_cp_s hlk hM hci
          have hsum := ri_sum4 (ρ := ρ) (sa := sa) (ad := ad) hlen
          rcases hkq with rfl | rfl
          · obtain ⟨names, n1, n2, n3⟩ := hci9
            refine vx_throwSW (A := A) hx hb hl hown k3 n2 (hts _ k1) (hts _ k2) (hstr _ k9) (fun w hw => hts _ (n3 w hw).1) ?_ hSt.2.2.2.1 hSt.2.2.2.2.1 hS (hl0.1.trans hml.symm) hd (hcode _ _ _ h3) (hcode _ _ _ h4) (hcode _ _ _ h6) (hcode _ _ _ h9) (fun x hx => (hex0 x hx).elim) ?_ ?_ ?_ ?_ hlocks ?_ hS.2.2 hc1 hs1
            · intro w hw
              rcases List.mem_cons.mp hw with rfl | hw
              · rfl
              · rcases List.mem_cons.mp hw with rfl | hw
                · rfl
                · exact (n3 w hw).2
            · show names.length + 3 < d + 1 + 1
              omega
            · show _ ≤ 100 + (d + 1) * LC
              have : 13 * (names.length + 1) + 43 ≤ 82 := by omega
              omega
            · exact hc1
            · exact hs1
            · intro t hvm hsz hq
              refine ⟨(cs, mem, .inr E2), hLT _ List.mem_cons_self, ad, rfl, hag, hsat, hn, hok, va_P.kept hP (fun k q hk => hq q.1 (vx_lt hP hk)), hD, Nat.le_trans hS.1 hsz, fun q h1 h2 => (hq q (Nat.lt_of_lt_of_le h1 hS.1)).trans (hS.2.1 q h1 h2)⟩
          · refine ri_throwXW (A := A) hx hb hl hown k3 (by decide +kernel) (names := ["java/lang/Exception"]) (Y0 := "java/lang/RuntimeException") (by intro n hn; rw [List.mem_singleton.mp hn]; decide +kernel) ri_rx0 ri_rx1 ri_rx2 ri_rx5 (hts _ k1) (hts _ k2) (hstr _ k9) (fun w hw => hts _ (hci9 w hw).1) ?_ hSt.2.2.2.1 hSt.2.2.2.2.1 hS (hl0.1.trans hml.symm) hd (hcode _ _ _ h3) (hcode _ _ _ h4) (hcode _ _ _ h6) (hcode _ _ _ h9) (fun x hx => (hex0 x hx).elim) ?_ ?_ ?_ ?_ hlocks ?_ hS.2.2 hc1 hs1
            · intro w hw
              rcases List.mem_cons.mp hw with rfl | hw
              · rfl
              · rcases List.mem_cons.mp hw with rfl | hw
                · rfl
                · exact (hci9 w hw).2
            · show 1 + 4 < d + 1 + 1
              omega
            · show _ ≤ 100 + (d + 1) * LC
              have hl1 : (List.length ["java/lang/Exception"]) = 1 := rfl
              omega
            · exact hc1
            · exact hs1
            · intro t hvm hsz hq
              refine ⟨(cs, mem, .inr E2), hLT _ List.mem_cons_self, ad, rfl, hag, hsat, hn, hok, va_P.kept hP (fun k q hk => hq q.1 (vx_lt hP hk)), hD, Nat.le_trans hS.1 hsz, fun q h1 h2 => (hq q (Nat.lt_of_lt_of_le h1 hS.1)).trans (hS.2.1 q h1 h2)⟩
        · cases h
      · cases h
    · cases h
  · cases h
end RIX2
end RIX
end
section
/-! RI: calls -/
section RIY
section RIY1
variable {p : Program} {l : Launch} {e : Env} {R : Room} {s : State} {m : MethodId} {args : Array Value} {below : List Frame} {meth : Method} {c : Code}
variable {ALL : List Jvm.Cond} {STR : List (String × Nat × String)} {G : ri_Tb} {M : ri_Mt} {D : va_G} {tyc : Nat → ClassId} {A : Nat → Prop}
variable {ρ : Nat → Int32} {sa : String → Nat → Nat} {n0 LC d mcT msT : Nat} {ad0 : Nat → Nat} {LT : List ri_Lf} {lv : List (Nat × Jvm.Term)} {st rest : List Jvm.Term} {mem : ri_Me} {pc idx len : Nat} {cs : List ri_Cd} {rs r1 : ri_Rs} {K : ri_K} {call : ri_Call}
theorem ri_A1 {ad : Nat → Nat} {H : Heap} {locs : List Loc} (hD : va_D A (ri_w ρ sa (ri_aty G) tyc ad mem)) (hS : va_S A s.heap H locs) (hA : ∀ q, s.heap.size ≤ q → A q) : ∀ q, va_A (ri_w ρ sa (ri_aty G) tyc ad mem) H.size q → A q := by
  intro q h
  rcases h with ⟨k, e, h⟩ | h
  · exact hD.2 k (q, e) h
  · exact hA q (Nat.le_trans hS.1 h)
/-- where a method's handlers let an exception pass -/
theorem ri_find_n {E : String} (hlk : ri_lkOK ALL STR G) (hM : ri_lkM ALL STR G M) (hts : ∀ w ∈ ALL, w.before args s = true) (hnc : ∀ q ∈ ri_nc G, q.2.2 = false → va_Nc q.1 q.2.1 s) : ∀ (hh : List (Nat × Nat × Nat × Nat)), ri_find G M pc E hh = some none → ∀ z ∈ tableOf hh, covers z pc = false ∨ (z.catchType ≠ 0 ∧ ∃ nm : String, (Cond.classLink (ri_own M) z.catchType nm).before args s = true ∧ va_Nc E nm s)
  | [], h, z, hz => by cases hz
  | (a, b, hp, ct) :: l, h, z, hz => by
    unfold ri_find at h
    split at h
    · next hc =>
      split at h
      · next x y nm hcp =>
        split at h
        · next q hq =>
          split at h
          · cases h
          · next h0 =>
            split at h
            · cases h
            · next hf =>
              rcases List.mem_cons.mp hz with rfl | hz
              · have h2 := List.find?_some hq
                simp only [Bool.and_eq_true, beq_iff_eq] at h2
                have h3 := hnc q (List.mem_of_find?_eq_some hq) (by simpa using hf)
                rw [h2.1, h2.2] at h3
                exact Or.inr ⟨h0, nm, hts _ (ri_cp_s hlk hM hcp).1, h3⟩
              · exact ri_find_n hlk hM hts hnc l h z hz
        · cases h
      · cases h
    · next hc =>
      rcases List.mem_cons.mp hz with rfl | hz
      · left
        show (decide (a ≤ pc) && decide (pc < b)) = false
        rw [Bool.and_eq_false_iff, decide_eq_false_iff_not, decide_eq_false_iff_not]
        omega
      · exact ri_find_n hlk hM hts hnc l h z hz
/-- where one of them catches it -/
theorem ri_find_c {E : String} {hp : Nat} (hlk : ri_lkOK ALL STR G) (hM : ri_lkM ALL STR G M) (hts : ∀ w ∈ ALL, w.before args s = true) (hnc : ∀ q ∈ ri_nc G, q.2.2 = false → va_Nc q.1 q.2.1 s) (hcs : ∀ q ∈ ri_nc G, q.2.2 = true → Jvm.Cond.castable q.1 q.2.1 ∈ ALL) : ∀ (hh : List (Nat × Nat × Nat × Nat)), ri_find G M pc E hh = some (some hp) →
    ∃ (pre : List ExceptionTableEntry) (x : ExceptionTableEntry) (suf : List ExceptionTableEntry) (nm : String), tableOf hh = pre ++ x :: suf ∧ (∀ z ∈ pre, covers z pc = false ∨ (z.catchType ≠ 0 ∧ ∃ nm : String, (Cond.classLink (ri_own M) z.catchType nm).before args s = true ∧ va_Nc E nm s)) ∧ covers x pc = true ∧ x.catchType ≠ 0 ∧ x.handlerPc = hp ∧ (Cond.classLink (ri_own M) x.catchType nm).before args s = true ∧ (Cond.castable E nm).before args s = true
  | [], h => by cases h
  | (a, b, h0, ct) :: l, h => by
    have skip : ri_find G M pc E l = some (some hp) → (covers (⟨a, b, h0, ct⟩ : ExceptionTableEntry) pc = false ∨ ((⟨a, b, h0, ct⟩ : ExceptionTableEntry).catchType ≠ 0 ∧ ∃ nm : String, (Cond.classLink (ri_own M) (⟨a, b, h0, ct⟩ : ExceptionTableEntry).catchType nm).before args s = true ∧ va_Nc E nm s)) → ∃ (pre : List ExceptionTableEntry) (x : ExceptionTableEntry) (suf : List ExceptionTableEntry) (nm : String), tableOf ((a, b, h0, ct) :: l) = pre ++ x :: suf ∧ (∀ z ∈ pre, covers z pc = false ∨ (z.catchType ≠ 0 ∧ ∃ nm : String, (Cond.classLink (ri_own M) z.catchType nm).before args s = true ∧ va_Nc E nm s)) ∧ covers x pc = true ∧ x.catchType ≠ 0 ∧ x.handlerPc = hp ∧ (Cond.classLink (ri_own M) x.catchType nm).before args s = true ∧ (Cond.castable E nm).before args s = true := by
      intro h hz
      obtain ⟨pre, x, suf, nm, e1, e2, e3⟩ := ri_find_c hlk hM hts hnc hcs l h
      refine ⟨⟨a, b, h0, ct⟩ :: pre, x, suf, nm, ?_, fun z hz2 => ?_, e3⟩
      · show _ :: tableOf l = _
        rw [e1]; rfl
      · rcases List.mem_cons.mp hz2 with rfl | hz2
        · exact hz
        · exact e2 z hz2
    unfold ri_find at h
    split at h
    · next hc =>
      split at h
      · next x y nm hcp =>
        split at h
        · next q hq =>
          have h2 := List.find?_some hq
          simp only [Bool.and_eq_true, beq_iff_eq] at h2
          have hqm := List.mem_of_find?_eq_some hq
          split at h
          · cases h
          · next hct =>
            split at h
            · next hf =>
              cases h
              have h3 := hcs q hqm hf
              rw [h2.1, h2.2] at h3
              refine ⟨[], ⟨a, b, hp, ct⟩, tableOf l, nm, rfl, fun z hz => (by cases hz), ?_, hct, rfl, hts _ (ri_cp_s hlk hM hcp).1, hts _ h3⟩
              show (decide (a ≤ pc) && decide (pc < b)) = true
              rw [Bool.and_eq_true, decide_eq_true_iff, decide_eq_true_iff]
              exact hc
            · next hf =>
              have h3 := hnc q hqm (by simpa using hf)
              rw [h2.1, h2.2] at h3
              exact skip h (Or.inr ⟨hct, nm, hts _ (ri_cp_s hlk hM hcp).1, h3⟩)
        · cases h
      · cases h
    · next hc =>
      refine skip h (Or.inl ?_)
      show (decide (a ≤ pc) && decide (pc < b)) = false
      rw [Bool.and_eq_false_iff, decide_eq_false_iff_not, decide_eq_false_iff_not]
      omega
theorem ri_ers_has {ad : Nat → Nat} {ls : Array Slot} {nL i : Nat} {q : Nat} (h : lv_has ls nL ((i, Value.ref q) :: (ri_lc ρ sa ad lv).filter (fun q => !(q.1 == i) && !(q.1 + 1 == i && q.2.category == 2)))) : lv_has ls nL (ri_lc ρ sa ad (ri_ers lv i)) := by
  refine ri_has_sub h fun q hq => ?_
  obtain ⟨z, hz, rfl⟩ := List.mem_map.mp hq
  obtain ⟨h1, h2⟩ := List.mem_filter.mp hz
  refine List.mem_cons_of_mem _ (List.mem_filter.mpr ⟨List.mem_map.mpr ⟨z, h1, rfl⟩, ?_⟩)
  have e : ((ri_cv ρ sa ad z.2).category == 2) = ri_wide z.2 := by
    rw [Bool.eq_iff_iff, beq_iff_eq]; exact ri_cat2
  show (!(z.1 == i) && !(z.1 + 1 == i && (ri_cv ρ sa ad z.2).category == 2)) = true
  rw [e]; exact h2
theorem ri_back_W {ad : Nat → Nat} {ls : Array Slot} {H : Heap} {locs : List Loc} {cells slots : Nat} {st0 : List Value} {L : List ri_Lf} {mc ms : Nat} {r2 : ri_Rs} {va : Array Value} (hC : ri_Cx l ALL STR sa G M D tyc A p s m args meth c R LC d mcT msT) (hcode : ∀ pc i len, (ri_co M)[pc]? = some (some (i, len)) → decode (ri_by M) pc = .ok (i, len)) (hK : ∀ pc lv st cs mem rs, K pc lv st cs mem = some rs → ri_So p l e R s m args below meth c G M D tyc A ρ sa n0 ad0 LT mcT msT pc lv st cs mem rs)
    (hrun : vx_Run p l e R s m args below meth c H locs cells slots mc ms (F0 m pc ls st0) (rest.map (ri_cv ρ sa ad)) (ri_Qc G D tyc (va_A (ri_w ρ sa (ri_aty G) tyc ad mem) H.size) ρ sa mem.length ad L va) (ri_XC G D tyc (va_A (ri_w ρ sa (ri_aty G) tyc ad mem) H.size) ρ sa mem.length ad L) (va_A (ri_w ρ sa (ri_aty G) tyc ad mem) H.size))
    (hseq : ri_seq (ri_after G M K pc lv rest) L = some r2) (hag : ri_ag n0 ad0 ad) (hn : n0 ≤ mem.length) (hl0 : lv_has ls (ri_mx M) (ri_lc ρ sa ad lv)) (hD : va_D A (ri_w ρ sa (ri_aty G) tyc ad mem)) (hS : va_S A s.heap H locs) (hlv : ∀ q ∈ lv, ri_ok mem.length q.2) (hst : ∀ t ∈ rest, ri_ok mem.length t)
    (hLT : ∀ x ∈ r2.1, x ∈ LT) (hc1 : cells + mc + r2.2.1 ≤ mcT) (hs1 : slots + ms + r2.2.2.1 ≤ msT) (hob : ∀ o ∈ r2.2.2.2, ri_obs ρ o) :
    W p l e R s m args below meth c H locs cells slots (vx_MQ below (ri_Qc G D tyc A ρ sa n0 ad0 LT) (ri_XC G D tyc A ρ sa n0 ad0 LT) args s mcT msT A) (F0 m pc ls st0) := by
  obtain ⟨⟨⟨hx, hb, hml, hown, hin⟩, hM, hcl, hlk, hts, hKK, hA, hstr⟩, hSt, hwm, hr, hlocks, hex, hl, rfl, hLC, hco, hcs, hhi⟩ := hC
  have hA1 := ri_A1 hD hS hA
  refine ri_use hrun (fun v st₀ t H1 Ls h0 ht hvm hL hQ => ?_) (fun q E ce st₀ t H1 Ls h0 ht hvm hL hQ hce hcv hcl9 => ?_)
  · obtain ⟨lf, hlf, tm, ad', e1, e2, e3, f1, f2, f3, f4, f5, f6, f7⟩ := hQ
    obtain ⟨rx, g1, g2⟩ := ri_seq_s L hseq lf hlf
    obtain ⟨k1, k2, k3⟩ := vx_keep (T' := t) h0 rfl hS (fun q _ h => hA1 q h) hA1 hL f7
    rw [ht] at f5 k3
    have e4 : v = tm.map (ri_cv ρ sa ad') := by injection e2
    have hK1 : K (pc + 3) lv (tm.toList ++ rest) lf.1 lf.2.1 = some rx := by
      unfold ri_after at g1
      rw [e1] at g1
      cases tm with
      | none => exact g1
      | some z => exact g1
    have hgo := hK _ _ _ _ _ _ hK1 ad' ls H1 (locs ++ Ls) (cells + mc) (slots + ms) (ri_ag_tr hag f1 hn) (Nat.le_trans hn f3) (by rw [ri_lc_ag hlv f1]; exact hl0) f5 (f6.weaken (fun _ _ _ h => hA1 _ h)) k3 f4 (fun q hq => ri_ok_mono (hlv q hq) f3) (fun z hz => by
      rcases List.mem_append.mp hz with hz | hz
      · cases tm with
        | none => cases hz
        | some w =>
          have := e3 w rfl
          simp at hz
          rw [hz]; exact this
      · exact ri_ok_mono (hst z hz) f3) f2 (fun x hx => hLT x (g2.1 x hx)) (Nat.le_trans (Nat.add_le_add_left g2.2.1 _) hc1) (Nat.le_trans (Nat.add_le_add_left g2.2.2.1 _) hs1) (fun o ho => hob o (g2.2.2.2 o ho))
    have e5 : v.toList ++ rest.map (ri_cv ρ sa ad) = (tm.toList ++ rest).map (ri_cv ρ sa ad') := by
      rw [e4, List.map_append, ri_map_ag hst f1]
      cases tm <;> rfl
    rw [e5]
    exact hgo
  · obtain ⟨lf, hlf, ad', e1, f1, f2, f3, f4, f5, f6, f7⟩ := hQ
    obtain ⟨rx, g1, g2⟩ := ri_seq_s L hseq lf hlf
    obtain ⟨k1, k2, k3⟩ := vx_keep (T' := t) h0 rfl hS (fun q _ h => hA1 q h) hA1 hL f7
    rw [ht] at f5 k3
    unfold ri_after at g1
    rw [e1] at g1
    dsimp only at g1
    have hts0 : ∀ w ∈ ALL, w.before args s = true := fun w hw => hts w hw
    split at g1
    · next hfn =>
      cases g1
      have hp9 := ri_find_n hlk hM hts0 hSt.2.2.2.2.2.1 _ hfn
      rw [← hex] at hp9
      refine vx_outP hown hlocks hp9 hce hcv hcl9 (fun t9 ht9 _ => ?_) k3.2.2 (Nat.le_trans (Nat.le_add_right _ _) hc1) (Nat.le_trans (Nat.le_add_right _ _) hs1)
      exact ⟨(lf.1, lf.2.1, .inr E), hLT _ (g2.1 _ List.mem_cons_self), ad', rfl, ri_ag_tr hag f1 hn, f2, Nat.le_trans hn f3, f4, by rw [ht9]; exact f5, f6.weaken (fun _ _ _ h => hA1 _ h), k3.F ht9⟩
    · next hp hfc =>
      obtain ⟨pre, x, suf, nm, e4, e5, e6, e7, e8, e9, e10⟩ := ri_find_c hlk hM hts0 hSt.2.2.2.2.2.1 hcs _ hfc
      rw [← hex] at e4
      refine vx_catch hown pre x suf e4 e5 e6 e7 e9 e10 hce hcv hcl9 ?_
      rw [e8]
      have hl1 : lv_has ls (ri_mx M) (ri_lc ρ sa ad' lv) := by rw [ri_lc_ag hlv f1]; exact hl0
      have go : ∀ (pc2 k : Nat) (ls' : Array Slot), K pc2 (ri_ers lv k) [] lf.1 lf.2.1 = some rx → lv_has ls' (ri_mx M) (ri_lc ρ sa ad' (ri_ers lv k)) → W p l e (ri_rm (d + 1) LC mcT msT) s m args below meth c H1 (locs ++ Ls) (cells + mc) (slots + ms) (vx_MQ below (ri_Qc G D tyc A ρ sa n0 ad0 LT) (ri_XC G D tyc A ρ sa n0 ad0 LT) args s mcT msT A) (F0 m pc2 ls' []) := fun pc2 k ls' hk hl' =>
        hK _ _ _ _ _ _ hk ad' ls' H1 (locs ++ Ls) (cells + mc) (slots + ms) (ri_ag_tr hag f1 hn) (Nat.le_trans hn f3) hl' f5 (f6.weaken (fun _ _ _ h => hA1 _ h)) k3 f4 (fun q hq => ri_ok_mono (hlv q (List.mem_filter.mp hq).1) f3) (fun z hz => by cases hz) f2 (fun x hx => hLT x (g2.1 x hx)) (Nat.le_trans (Nat.add_le_add_left g2.2.1 _) hc1) (Nat.le_trans (Nat.add_le_add_left g2.2.2.1 _) hs1) (fun o ho => hob o (g2.2.2.2 o ho))
      unfold ri_catch at g1
      split at g1
      · next k hi =>
        split at g1
        · next hk9 => exact lv_astore hx hb (hcode _ _ _ hi) hl1 hk9 rfl fun ls' hl' => go _ k ls' g1 (ri_ers_has hl')
        · cases g1
      · next k hi =>
        split at g1
        · next hk9 => exact lv_astore_n hx hb (hcode _ _ _ hi) rfl hl1 hk9 rfl fun ls' hl' => go _ k ls' g1 (ri_ers_has hl')
        · cases g1
      · cases g1
    · cases g1
theorem ri_recv_s {cls : String} {as : List Jvm.Term} (h : ri_recv G cls mem as = true) : ∃ (k : Nat) (r : List Jvm.Term) (ci : Nat) (fs : List Jvm.Term) (rr : vw_C), as = .index k :: r ∧ mem[k]? = some (.inl (ci, fs)) ∧ (ri_cls G)[ci]? = some rr ∧ rr.1 = cls := by
  unfold ri_recv at h
  split at h
  · next k r =>
    split at h
    · next ci fs hm =>
      split at h
      · next rr hc => exact ⟨k, r, ci, fs, rr, rfl, hm, hc, beq_iff_eq.mp h⟩
      · cases h
    · cases h
  · cases h
/-- a callee's start, from a caller's place -/
theorem ri_pre {ad : Nat → Nat} {H : Heap} {locs : List Loc} {as : List Jvm.Term} (hSt : ri_St ALL STR G D tyc sa A s) (hwm : ∀ w ∈ ALL, ri_warm w = true) (hA : ∀ q, s.heap.size ≤ q → A q) (hP : va_P D (ri_cls G) (ri_w ρ sa (ri_aty G) tyc ad mem) H) (hD : va_D A (ri_w ρ sa (ri_aty G) tyc ad mem)) (hS : va_S A s.heap H locs) (U : State) (hU : U.heap = H) (hW : s.WarmedH U.vm) :
    ri_Pc ALL STR G D tyc ρ sa ad H.size as mem (as.map (ri_cv ρ sa ad)).toArray U :=
  ⟨rfl, by rw [hU], by rw [hU]; exact hP, hD.weaken (fun _ _ _ _ => trivial), ri_St_go hwm hSt hW (fun q h1 h2 => by rw [hU]; exact hS.2.1 q h1 h2) (ri_A1 hD hS hA)⟩
/-- what is asked of a callee's tables -/
theorem ri_cb {M2 : ri_Mt} {n mc ms : Nat} (hts : ∀ w ∈ ALL, ∀ a : Array Value, w.before a s = true) (hLC : ∀ i ∈ ri_mts G, 19 + ri_mx i ≤ LC) (hco : ∀ M2 ∈ ri_mts G, ri_own M2 = (ri_nm M2).cls ∧ ri_hw M2 ∈ ALL ∧ goodWord (ri_hw M2) = true ∧ Jvm.Cond.initialized (ri_nm M2).cls ∈ ALL ∧ Bundle.fit (ri_nm M2).cls = true) (hM2 : M2 ∈ ri_mts G) (hpar : (parseMethodDescriptor (ri_nm M2).desc).map (fun d => d.parameters.length) = some n) :
    ((ri_rm d LC mc ms).cells = mc ∧ (ri_rm d LC mc ms).slots = ms ∧ (ri_rm d LC mc ms).frames + 1 ≤ (ri_rm (d + 1) LC mcT msT).frames ∧ 8 + (ri_mx M2 + 11) + (ri_rm d LC mc ms).locals ≤ (ri_rm (d + 1) LC mcT msT).locals ∧ (∀ w ∈ ([ri_hw M2] : List Jvm.Cond), ∀ (a' : Array Value) (U : State), s.WarmedH U.vm → w.before a' U = true) ∧ ri_hw M2 ∈ ([ri_hw M2] : List Jvm.Cond)) ∧
    (ri_hw M2).before args s = true ∧ (Jvm.Cond.initialized (ri_nm M2).cls).before args s = true ∧ ((ri_nm M2).cls ≠ "java/lang/invoke/MethodHandle" ∧ (ri_nm M2).cls ≠ "java/lang/invoke/VarHandle") ∧ (∀ sig, parseMethodDescriptor (ri_nm M2).desc = some sig → n = sig.parameters.length) := by
  obtain ⟨-, c1, c2, c3, c4⟩ := hco M2 hM2
  have h1 := hLC M2 hM2
  refine ⟨⟨rfl, rfl, ?_, ?_, fun w hw a' U hW => ?_, List.mem_cons_self⟩, hts _ c1 _, hts _ c3 _, ⟨(Bundle.fit_spec c4).2.1, (Bundle.fit_spec c4).2.2⟩, fun sig h => ?_⟩
  · show d + 1 + 1 ≤ d + 1 + 1
    omega
  · show 8 + (ri_mx M2 + 11) + (100 + d * LC) ≤ 100 + (d + 1) * LC
    have : (d + 1) * LC = d * LC + LC := Nat.succ_mul d LC
    omega
  · rw [List.mem_singleton] at hw
    subst hw
    exact word_at hW (good_of_word c2) (hts _ c1 args)
  · rw [h] at hpar
    exact (Option.some.inj hpar).symm
theorem ri_hw_nil {M2 : ri_Mt} (h : (ri_hh M2).isEmpty = true) : ri_hw M2 = .code (ri_nm M2) (ri_by M2) (ri_mx M2) (ri_rt M2) := by
  unfold ri_hw
  rw [List.isEmpty_iff.mp h]
theorem ri_hw_cons {M2 : ri_Mt} {h : Nat × Nat × Nat × Nat} {t : List (Nat × Nat × Nat × Nat)} (e : ri_hh M2 = h :: t) : ri_hw M2 = .codeWith (ri_nm M2) (ri_by M2) (ri_mx M2) (ri_rt M2) (h :: t) := by
  unfold ri_hw
  rw [e]
theorem ri_inv_W (sort : Nat) (hC : ri_Cx l ALL STR sa G M D tyc A p s m args meth c R LC d mcT msT) (hK : ∀ pc lv st cs mem rs, K pc lv st cs mem = some rs → ri_So p l e R s m args below meth c G M D tyc A ρ sa n0 ad0 LT mcT msT pc lv st cs mem rs)
    (hcall : ∀ mi as cs mem rs, call mi as cs mem = some rs → ri_Con l ALL STR G LC d mi as cs mem rs)
    (hd0 : sort = 0 → decode (ri_by M) pc = .ok (.invokevirtual idx, 3)) (hd1 : sort = 1 → decode (ri_by M) pc = .ok (.invokestatic idx, 3)) (hd2 : sort = 2 → decode (ri_by M) pc = .ok (.invokespecial idx, 3)) (h3 : sort < 3)
    (hcode : ∀ pc i len, (ri_co M)[pc]? = some (some (i, len)) → decode (ri_by M) pc = .ok (i, len)) (h : ri_inv G call M K sort pc idx lv st cs mem = some rs) : ri_So p l e R s m args below meth c G M D tyc A ρ sa n0 ad0 LT mcT msT pc lv st cs mem rs := by
  have hC0 := hC
  obtain ⟨⟨⟨hx, hb, hml, hown, hin⟩, hM, hcl, hlk, hts, hKK, hA, hstr⟩, hSt, hwm, hr, hlocks, hex, hl, rfl, hLC, hco, hcs, hhi⟩ := hC
  intro ad ls H locs cells slots hag hn hl0 hP hD hS hok hlv hst hsat hLT hc1 hs1 hob
  unfold ri_inv at h
  split at h
  · next kd mi n tx hcp =>
    have hlink := ri_cp_s hlk hM hcp
    split at h
    · next hkd =>
      split at h
      · next M2 hM2 =>
        split at h
        · next hk =>
          obtain ⟨hhh, hlen, hr4, hrecv⟩ := hk
          split at h
          · next L mc ms ob hcl2 =>
            obtain ⟨r2, hseq, x1, x2, x3, x4⟩ := ri_more_s h
            have hM2m : M2 ∈ ri_mts G := List.mem_of_getElem? hM2
            have hoks : ∀ t ∈ (st.take (ri_nn sort n)).reverse, ri_ok mem.length t := fun t ht => hst t (List.mem_of_mem_take (List.mem_reverse.mp ht))
            have hokr : ∀ t ∈ st.drop (ri_nn sort n), ri_ok mem.length t := fun t ht => hst t (List.mem_of_mem_drop ht)
            have hM9 := hcall _ _ _ _ _ hcl2 M2 hM2 D tyc ρ sa ad H.size hsat hok hoks (fun o ho => hob o (by rw [x4]; exact List.mem_append_left _ ho))
            have hsum := ri_sum4 (ρ := ρ) (sa := sa) (ad := ad) hr4
            rw [x2] at hc1
            rw [x3] at hs1
            have hf : cells + mc ≤ (ri_rm (d + 1) LC mcT msT).cells ∧ slots + ms ≤ (ri_rm (d + 1) LC mcT msT).slots := ⟨by show _ ≤ mcT; omega, by show _ ≤ msT; omega⟩
            have hpre := fun U hU hW => ri_pre (ρ := ρ) (as := (st.take (ri_nn sort n)).reverse) hSt hwm hA hP hD hS U hU hW
            have hbl := ri_Pc_blind (STR := STR) (G := G) (D := D) (tyc := tyc) (ρ := ρ) (sa := sa) (ad := ad) (sz := H.size) (args := (st.take (ri_nn sort n)).reverse) (mem := mem) hwm
            have hstk : st.map (ri_cv ρ sa ad) = ((st.take (ri_nn sort n)).reverse.map (ri_cv ρ sa ad)).reverse ++ (st.drop (ri_nn sort n)).map (ri_cv ρ sa ad) := by
              rw [← List.map_reverse, List.reverse_reverse, ← List.map_append, List.take_append_drop]
            have hlen9 : (st.take (ri_nn sort n)).reverse.length = (ri_nn sort n) := by
              rw [List.length_reverse, List.length_take]; omega
            generalize hAs : (st.take (ri_nn sort n)).reverse = as at hM9 hpre hbl hstk hlen9 hrecv
            refine ri_back_W (mc := mc) (ms := ms) (va := (as.map (ri_cv ρ sa ad)).toArray) hC0 hcode hK ?_ hseq hag hn hl0 hD hS hlv hokr (fun x hx => hLT x (by rw [x1]; exact hx)) (by omega) (by omega) (fun o ho => hob o (by rw [x4]; exact List.mem_append_right _ ho))
            have hcf : CallFix p m c (ri_by M) (ri_mx M) s args [] (ri_own M) := ⟨hx, hb, hml, hown, fun w hw => by cases hw⟩
            rcases Nat.lt_or_ge sort 1 with h0 | h0
            · have h0 : sort = 0 := by omega
              subst h0
              obtain ⟨k, r, ci, fs, rr, rfl, hmk, hck, hrr⟩ := ri_recv_s (hrecv.resolve_left (by decide))
              have hre := va_recv hKK hP hck (ri_w_get hmk)
              rw [hrr] at hre
              have hlr : (r.map (ri_cv ρ sa ad)).length = n := by
                rw [List.length_map]
                have : r.length + 1 = n + 1 := hlen9
                omega
              have hst2 : st.map (ri_cv ρ sa ad) = (r.map (ri_cv ρ sa ad)).reverse ++ .ref (ad k) :: (st.drop (n + 1)).map (ri_cv ρ sa ad) := by
                rw [hstk]
                show (Value.ref (ad k) :: r.map (ri_cv ρ sa ad)).reverse ++ _ = _
                rw [List.reverse_cons, List.append_assoc]
                rfl
              have hw9 := ri_hw_nil (hhh.resolve_left (fun z => by rcases hkd with h9 | h9 <;> omega))
              rw [hw9] at hM9
              rcases hkd with rfl | rfl
              · obtain ⟨M3, g1, g2, g3, g4, g5⟩ := hlink
                rw [hM2] at g1
                cases g1
                obtain ⟨⟨b1, b2, b3, b4, b5, b6⟩, b7, b8, b9, b10⟩ := ri_cb (args := args) (d := d) (mcT := mcT) (msT := msT) (mc := mc) (ms := ms) hSt.1 hLC hco hM2m g2
                rw [hw9] at b5 b6 b7
                exact vx_runV (As := r.map (ri_cv ρ sa ad)) (C := (ri_nm M2).cls) hcf hM9 ⟨⟨b1, b2, b3, b4, b5, b6, b7, b8, b9, b10, hSt.1 _ g3 _⟩, hSt.1 _ g4 _, hSt.1 _ g5 _⟩ ⟨hbl, hre, hpre⟩ rfl hlr hl0.1 hst2 (lv_room hsum) (hd0 rfl) hf
              · obtain ⟨M3, g1, g2, g3, g4, g5⟩ := hlink
                rw [hM2] at g1
                cases g1
                obtain ⟨b0, b7, b8, b9, b10⟩ := ri_cb (args := args) (d := d) (mcT := mcT) (msT := msT) (mc := mc) (ms := ms) hSt.1 hLC hco hM2m g2
                rw [hw9] at b0 b7
                exact vx_runVN (As := r.map (ri_cv ρ sa ad)) (C := (ri_nm M2).cls) hcf hM9 ⟨⟨b0, b7, b8, b9, b10, hSt.1 _ g3 _⟩, hSt.1 _ g4 _, hSt.1 _ g5 _⟩ ⟨hbl, hre, hpre⟩ rfl hlr hl0.1 hst2 (lv_room hsum) (hd0 rfl) hf
            · rcases Nat.lt_or_ge sort 2 with h1 | h1
              · have h0 : sort = 1 := by omega
                subst h0
                have hlr : (as.map (ri_cv ρ sa ad)).length = n := by
                  rw [List.length_map]; exact hlen9
                rcases hkd with rfl | rfl
                · obtain ⟨M3, g1, g2, g3, g4⟩ := hlink
                  rw [hM2] at g1
                  cases g1
                  obtain ⟨⟨b1, b2, b3, b4, b5, b6⟩, b7, b8, b9, b10⟩ := ri_cb (args := args) (d := d) (mcT := mcT) (msT := msT) (mc := mc) (ms := ms) hSt.1 hLC hco hM2m g2
                  cases hh9 : ri_hh M2 with
                  | nil =>
                    have hw9 : ri_hw M2 = _ := ri_hw_nil (by rw [hh9]; rfl)
                    rw [hw9] at b5 b6 b7 hM9
                    exact vx_runS hcf hM9 ⟨⟨b1, b2, b3, b4, b5, b6, b7, b8, b9, b10, hSt.1 _ g3 _⟩, hSt.1 _ g4 _⟩ ⟨hbl, hpre⟩ rfl hlr hl0.1 hstk (lv_room hsum) (hd1 rfl) hf
                  | cons h9 t9 =>
                    have hw9 : ri_hw M2 = _ := ri_hw_cons hh9
                    rw [hw9] at b5 b6 b7 hM9
                    exact vx_runSX hcf hM9 ⟨⟨b1, b2, b3, b4, b5, b6⟩, b7, b8, b9, b10, hSt.1 _ g3 _, hSt.1 _ g4 _⟩ ⟨hbl, hpre⟩ rfl hlr hl0.1 hstk (lv_room hsum) (hd1 rfl) hf
                · have hw9 := ri_hw_nil (hhh.resolve_left (by omega))
                  rw [hw9] at hM9
                  obtain ⟨M3, g1, g2, g3, g4⟩ := hlink
                  rw [hM2] at g1
                  cases g1
                  obtain ⟨b0, b7, b8, b9, b10⟩ := ri_cb (args := args) (d := d) (mcT := mcT) (msT := msT) (mc := mc) (ms := ms) hSt.1 hLC hco hM2m g2
                  rw [hw9] at b0 b7
                  exact vx_runSN hcf hM9 ⟨⟨b0, b7, b8, b9, b10, hSt.1 _ g3 _⟩, hSt.1 _ g4 _, trivial⟩ ⟨hbl, hpre⟩ rfl hlr hl0.1 hstk (lv_room hsum) (hd1 rfl) hf
              · have h0 : sort = 2 := by omega
                subst h0
                obtain ⟨k, r, ci, fs, rr, rfl, hmk, hck, hrr⟩ := ri_recv_s (hrecv.resolve_left (by decide))
                have hlr : (r.map (ri_cv ρ sa ad)).length = n := by
                  rw [List.length_map]
                  have : r.length + 1 = n + 1 := hlen9
                  omega
                have hst2 : st.map (ri_cv ρ sa ad) = (r.map (ri_cv ρ sa ad)).reverse ++ .ref (ad k) :: (st.drop (n + 1)).map (ri_cv ρ sa ad) := by
                  rw [hstk]
                  show (Value.ref (ad k) :: r.map (ri_cv ρ sa ad)).reverse ++ _ = _
                  rw [List.reverse_cons, List.append_assoc]
                  rfl
                have hw9 := ri_hw_nil (hhh.resolve_left (fun z => by rcases hkd with h9 | h9 <;> omega))
                rw [hw9] at hM9
                rcases hkd with rfl | rfl
                · obtain ⟨M3, g1, g2, g3, g4, g5, g6⟩ := hlink
                  rw [hM2] at g1
                  cases g1
                  obtain ⟨⟨b1, b2, b3, b4, b5, b6⟩, b7, b8, b9, b10⟩ := ri_cb (args := args) (d := d) (mcT := mcT) (msT := msT) (mc := mc) (ms := ms) hSt.1 hLC hco hM2m g2
                  rw [hw9] at b5 b6 b7
                  rw [g6] at b5 b6 b7 hM9
                  exact vx_runI (As := r.map (ri_cv ρ sa ad)) hcf hM9 ⟨⟨b1, b2, b3, b4, b5, b6, b7, b8, b9, b10, hSt.1 _ g3 _⟩, g5, hSt.1 _ g4 _⟩ ⟨hbl, hpre⟩ rfl hlr hl0.1 hst2 (lv_room hsum) (hd2 rfl) hf
                · obtain ⟨M3, g1, g2, g3, g4, g5, g6⟩ := hlink
                  rw [hM2] at g1
                  cases g1
                  obtain ⟨b0, b7, b8, b9, b10⟩ := ri_cb (args := args) (d := d) (mcT := mcT) (msT := msT) (mc := mc) (ms := ms) hSt.1 hLC hco hM2m g2
                  rw [hw9] at b0 b7
                  rw [g6] at b0 b7 hM9
                  exact vx_runIN (As := r.map (ri_cv ρ sa ad)) hcf hM9 ⟨⟨b0, b7, b8, b9, b10, hSt.1 _ g3 _⟩, g5, hSt.1 _ g4 _⟩ ⟨hbl, hpre⟩ rfl hlr hl0.1 hst2 (lv_room hsum) (hd2 rfl) hf
          · cases h
        · cases h
      · cases h
    · next hkd =>
      split at h
      · next hk7 =>
        subst hk7
        split at h
        · next k r =>
          split at h
          · next hs =>
            obtain ⟨rfl, hr4⟩ := hs
            obtain ⟨g1, g2, g3⟩ := hlink
            have hsum := ri_sum4 (ρ := ρ) (sa := sa) (ad := ad) hr4
            have hgo := hK _ _ _ _ _ _ h ad ls H locs cells slots hag hn hl0 hP hD hS hok hlv (fun t ht => hst t (List.mem_cons_of_mem _ ht)) hsat hLT hc1 hs1 hob
            refine W.objInit hx hb hown (hts _ g1) (hts _ g2) (hts _ g3) rfl (hl0.1.trans hml.symm) rfl (hd2 rfl) ?_ ?_ ?_
            · show 1 ≤ d + 1 + 1
              omega
            · have := lv_room (m := m) (pc := pc) (ls := ls) (rest := (r.map (ri_cv ρ sa ad))) hsum
              show 2 * (F0 m pc ls _).monitorRoom + _ + 12 ≤ 100 + (d + 1) * LC
              have e0 : (F0 m pc ls ((.index k :: r : List Jvm.Term).map (ri_cv ρ sa ad))).monitorRoom = 0 := rfl
              rw [e0]
              omega
            · exact W.eq (g2 := F0 m (pc + 3) ls (r.map (ri_cv ρ sa ad))) rfl hgo
          · cases h
        · cases h
      · split at h
        · next hk10 =>
          subst hk10
          split at h
          · next y x r =>
            split at h
            · next hs =>
              obtain ⟨rfl, hx0, hy0, hr4⟩ := hs
              obtain ⟨g1, g2, g3, g4⟩ := hlink
              have hsum := ri_sum4 (ρ := ρ) (sa := sa) (ad := ad) hr4
              rw [List.map_cons, List.map_cons, ri_ivI hx0, ri_ivI hy0]
              refine va_mmax hx hb (hml.trans hl0.1.symm) hown (hts _ g1) (hts _ g2) (hts _ g3) (hts _ g4) (by show 1 ≤ d + 1 + 1; omega) (by show _ ≤ 100 + (d + 1) * LC; omega) (by show cells ≤ mcT; omega) (by show slots ≤ msT; omega) (hd1 rfl) ?_
              rcases ri_br_s hsat h with ⟨h1, cs', q1, h2, h3', h4⟩ | ⟨h1, cs', q1, h2, h3', h4⟩
              · rw [if_pos ((ri_sat_lt.mp h1).mp rfl)]
                have hgo := ri_So_le (hK _ _ _ _ _ _ h2) h4 ad ls H locs cells slots hag hn hl0 hP hD hS hok hlv (fun t ht => hst t (by
                  rcases List.mem_cons.mp ht with rfl | ht
                  · exact List.mem_cons_self
                  · exact List.mem_cons_of_mem _ (List.mem_cons_of_mem _ ht))) h3' hLT hc1 hs1 hob
                rw [List.map_cons, ri_ivI hy0] at hgo
                exact hgo
              · rw [if_neg (fun z => h1 (ri_sat_lt.mpr ⟨fun _ => z, fun _ => rfl⟩))]
                have hgo := ri_So_le (hK _ _ _ _ _ _ h2) h4 ad ls H locs cells slots hag hn hl0 hP hD hS hok hlv (fun t ht => hst t (List.mem_cons_of_mem _ ht)) h3' hLT hc1 hs1 hob
                rw [List.map_cons, ri_ivI hx0] at hgo
                exact hgo
            · cases h
          · cases h
        · split at h
          · next hk11 =>
            subst hk11
            split at h
            · next y x r =>
              split at h
              · next hs =>
                obtain ⟨rfl, hx0, hy0, hr4⟩ := hs
                obtain ⟨g1, g2, g3, g4⟩ := hlink
                have hsum := ri_sum4 (ρ := ρ) (sa := sa) (ad := ad) hr4
                rw [List.map_cons, List.map_cons, ri_ivI hx0, ri_ivI hy0]
                refine va_mmin hx hb (hml.trans hl0.1.symm) hown (hts _ g1) (hts _ g2) (hts _ g3) (hts _ g4) (by show 1 ≤ d + 1 + 1; omega) (by show _ ≤ 100 + (d + 1) * LC; omega) (by show cells ≤ mcT; omega) (by show slots ≤ msT; omega) (hd1 rfl) ?_
                rcases ri_br_s hsat h with ⟨h1, cs', q1, h2, h3', h4⟩ | ⟨h1, cs', q1, h2, h3', h4⟩
                · rw [if_pos ((ri_sat_lt.mp h1).mp rfl)]
                  have hgo := ri_So_le (hK _ _ _ _ _ _ h2) h4 ad ls H locs cells slots hag hn hl0 hP hD hS hok hlv (fun t ht => hst t (by
                    rcases List.mem_cons.mp ht with rfl | ht
                    · exact List.mem_cons_self
                    · exact List.mem_cons_of_mem _ (List.mem_cons_of_mem _ ht))) h3' hLT hc1 hs1 hob
                  rw [List.map_cons, ri_ivI hy0] at hgo
                  exact hgo
                · rw [if_neg (fun z => h1 (ri_sat_lt.mpr ⟨fun _ => z, fun _ => rfl⟩))]
                  have hgo := ri_So_le (hK _ _ _ _ _ _ h2) h4 ad ls H locs cells slots hag hn hl0 hP hD hS hok hlv (fun t ht => hst t (List.mem_cons_of_mem _ ht)) h3' hLT hc1 hs1 hob
                  rw [List.map_cons, ri_ivI hx0] at hgo
                  exact hgo
              · cases h
            · cases h
          · split at h
            · next hk16 =>
              have hS0 := hSt.2.2.2.2.2.2
              have hcf9 : CallFix p m c (ri_by M) (ri_mx M) s args [] (ri_own M) := ⟨hx, hb, hml, hown, fun w hw => by cases hw⟩
              unfold ri_strm at h
              split at h
              · next c9 i9 r9 =>
                split at h
                · next hc9 =>
                  obtain ⟨rfl, rfl, rfl, hr4, hhi2⟩ := hc9
                  split at h
                  · next a5 b5 tx5 hcp5 =>
                    have hq := ri_cp_s hlk hM hcp5
                    obtain ⟨g1, g2⟩ := hlink
                    have hhi5 := hhi hhi2
                    have hsum := ri_sum4 (ρ := ρ) (sa := sa) (ad := ad) hr4
                    obtain ⟨cell, a1, a2, a3, -⟩ := va_O.kept (hS0.1 (ri_own M, i9, tx5) hq).2.1 hS.2.1
                    refine sx_callV (k := 2) (n := 22) (As := []) (C := "java/lang/String") (tv := []) (rest := r9.map (ri_cv ρ sa ad)) (fun w hw a => hSt.1 w (g2 w hw) a) hS0 hA (fun z hz => by cases hz) hS hcf9 (sx_c7 (q := (ri_own M, i9, tx5)) hq) (sx_in 6 rfl) (sx_in 7 rfl) (sx_in 16 rfl) (sx_in 17 rfl) (hSt.1 _ g1 _) ⟨by decide, by decide⟩ (by decide +kernel) ⟨cell, a1, a2, a3⟩ ⟨by show 3 ≤ d + 1 + 1; omega, by show 8 + (1 + 11) + 22 ≤ 100 + (d + 1) * LC; omega⟩ hl0.1 hsum (hd0 rfl) ⟨by show _ ≤ mcT; omega, by show _ ≤ msT; omega⟩ (fun H1 L e1 e2 e3 => ?_)
                    have hgo := hK _ _ _ _ _ _ h ad ls H1 (locs ++ L) cells slots hag hn hl0 (va_P.kept hP (fun k q hk => e3 q.1 (vx_lt hP hk))) hD e1 hok hlv (fun t ht => by
                      rcases List.mem_cons.mp ht with rfl | ht
                      · rw [ri_ci_eq]; trivial
                      · exact hst t (List.mem_cons_of_mem _ ht)) hsat hLT hc1 hs1 hob
                    rw [List.map_cons, ri_ci_eq] at hgo
                    exact hgo
                  · cases h
                · cases h
              · next v9 c9 i9 r9 =>
                split at h
                · next hc9 =>
                  obtain ⟨rfl, rfl, rfl, hr4, hv0, hhi2⟩ := hc9
                  split at h
                  · next a5 b5 tx5 hcp5 =>
                    split at h
                    · next ch9 hch9 =>
                      have hq := ri_cp_s hlk hM hcp5
                      obtain ⟨g1, g2⟩ := hlink
                      have hhi5 := hhi hhi2
                      have hsum := ri_sum4 (ρ := ρ) (sa := sa) (ad := ad) hr4
                      obtain ⟨cell, a1, a2, a3, -⟩ := va_O.kept (hS0.1 (ri_own M, i9, tx5) hq).2.1 hS.2.1
                      refine sx_callV (k := 4) (n := 64) (As := [.int v9]) (C := "java/lang/String") (tv := []) (rest := r9.map (ri_cv ρ sa ad)) (fun w hw a => hSt.1 w (g2 w hw) a) hS0 hA (fun z hz => by cases hz) hS hcf9 (sx_c6 (q := (ri_own M, i9, tx5)) hq hv0 hch9) (sx_in 5 rfl) (sx_in 7 rfl) (sx_in 14 rfl) (sx_in 15 rfl) (hSt.1 _ g1 _) ⟨by decide, by decide⟩ sn_6 ⟨cell, a1, a2, a3⟩ ⟨by show 5 ≤ d + 1 + 1; omega, by show 8 + (2 + 11) + 64 ≤ 100 + (d + 1) * LC; omega⟩ hl0.1 hsum (hd0 rfl) ⟨by show _ ≤ mcT; omega, by show _ ≤ msT; omega⟩ (fun H1 L e1 e2 e3 => ?_)
                      have hgo := hK _ _ _ _ _ _ h ad ls H1 (locs ++ L) cells slots hag hn hl0 (va_P.kept hP (fun k q hk => e3 q.1 (vx_lt hP hk))) hD e1 hok hlv (fun t ht => by
                        rcases List.mem_cons.mp ht with rfl | ht
                        · rw [ri_ci_eq]; trivial
                        · exact hst t (List.mem_cons_of_mem _ (List.mem_cons_of_mem _ ht))) hsat hLT hc1 hs1 hob
                      rw [List.map_cons, ri_ci_eq] at hgo
                      exact hgo
                    · cases h
                  · cases h
                · cases h
              · cases h
            · cases h
  · cases h
end RIY1
end RIY
end
