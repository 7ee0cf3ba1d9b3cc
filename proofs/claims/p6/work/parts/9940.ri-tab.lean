/-! RI: what a program must show of its tables, checked -/
section RIQ
section RIQ1
variable {ALL : List Jvm.Cond} {STR : List (String × Nat × String)} {G : ri_Tb}
/-- the words that a link asks for -/
def ri_nd (STR : List (String × Nat × String)) (G : ri_Tb) (own : String) (idx : Nat) (q : ri_Lk) : Option (List Jvm.Cond) := match q with
  | (0, a, b, _) => match (ri_cls G)[a]? with
    | some (_, T, N) => if b < N then some [.fieldLink own idx (T b).1 (T b).2.1 (T b).2.2.1] else none
    | none => none
  | (1, a, b, tx) => match (ri_cls G)[a]? with
    | some (_, T, N) => if b < N then some [.fieldLinkNest own idx (T b).1 (T b).2.1 (T b).2.2.1 tx] else none
    | none => none
  | (4, a, _, _) => match (ri_cls G)[a]? with
    | some (C, _, N) => some [.classLink own idx C, .instantiable C N, .initialized C]
    | none => none
  | (6, a, _, _) => match (ri_aty G)[a]? with
    | some (.object C) => some [.classLink own (idx - 100000) C, .arrayOver (.object C)]
    | _ => none
  | (8, a, b, _) => some [.constant own idx (Int32.ofNat a - Int32.ofNat b)]
  | (5, _, _, E) => if Bundle.fit E = true then some [.classLink own idx E, .initialized E] else none
  | (9, _, _, tx) => if (own, idx, tx) ∈ STR then some [] else none
  | (14, a, b, _) => some [.constantLong own idx (Int64.ofNat a - Int64.ofNat b)]
  | (13, _, _, E) => if (["java/lang/RuntimeException", "java/lang/Exception"].all (fun n => Bundle.fit n) && (vx_atS own idx E ["java/lang/RuntimeException", "java/lang/Exception"]).all vx_ot) = true then some (vx_atS own idx E ["java/lang/RuntimeException", "java/lang/Exception"]) else none
  | (15, _, _, E) => if (ri_atX own idx E 13 ri_rx "java/lang/RuntimeException" ["java/lang/Exception"]).all vx_ot = true then some (ri_atX own idx E 13 ri_rx "java/lang/RuntimeException" ["java/lang/Exception"]) else none
  | (20, mi, n, _) => match (ri_mts G)[mi]? with
    | some M2 => if (parseMethodDescriptor (ri_nm M2).desc).map (fun d => d.parameters.length) = some n then some [.methodLink own idx (ri_nm M2), .instanceMethod (ri_nm M2), .selects (ri_nm M2).cls (ri_nm M2) (ri_nm M2)] else none
    | none => none
  | (21, mi, n, _) => match (ri_mts G)[mi]? with
    | some M2 => if (parseMethodDescriptor (ri_nm M2).desc).map (fun d => d.parameters.length) = some n then some [.methodLink own idx (ri_nm M2), .static (ri_nm M2)] else none
    | none => none
  | (22, mi, n, _) => match (ri_mts G)[mi]? with
    | some M2 => if (parseMethodDescriptor (ri_nm M2).desc).map (fun d => d.parameters.length) = some n ∧ (ri_nm M2).name = "<init>" ∧ ri_rt M2 = none then some [.methodLink own idx (ri_nm M2), .instanceMethod (ri_nm M2)] else none
    | none => none
  | (30, mi, n, tx) => match (ri_mts G)[mi]? with
    | some M2 => if (parseMethodDescriptor (ri_nm M2).desc).map (fun d => d.parameters.length) = some n then some [.methodLinkNest own idx (ri_nm M2) tx, .instanceMethod (ri_nm M2), .selects (ri_nm M2).cls (ri_nm M2) (ri_nm M2)] else none
    | none => none
  | (31, mi, n, tx) => match (ri_mts G)[mi]? with
    | some M2 => if (parseMethodDescriptor (ri_nm M2).desc).map (fun d => d.parameters.length) = some n then some [.methodLinkNest own idx (ri_nm M2) tx, .static (ri_nm M2)] else none
    | none => none
  | (32, mi, n, tx) => match (ri_mts G)[mi]? with
    | some M2 => if (parseMethodDescriptor (ri_nm M2).desc).map (fun d => d.parameters.length) = some n ∧ (ri_nm M2).name = "<init>" ∧ ri_rt M2 = none then some [.methodLinkNest own idx (ri_nm M2) tx, .instanceMethod (ri_nm M2)] else none
    | none => none
  | (7, _, _, _) => some [.methodLink own idx objectInit, .instanceMethod objectInit, .code objectInit ⟨#[0xb1]⟩ 1 none]
  | (10, _, _, _) => some [.methodLink own idx Lib.Math.max.name, .static Lib.Math.max.name, .initialized "java/lang/Math", .code Lib.Math.max.name Lib.Math.max.code 2 (some .int)]
  | (11, _, _, _) => some [.methodLink own idx Lib.Math.min.name, .static Lib.Math.min.name, .initialized "java/lang/Math", .code Lib.Math.min.name Lib.Math.min.code 2 (some .int)]
  | (12, _, _, _) => some [.methodLink own idx arraycopyName, .native arraycopyName, .static arraycopyName, .initialized "java/lang/System"]
  | (16, _, _, _) => some (.methodLink own idx sx_y7 :: sx_W)
  | (17, _, _, _) => some (.methodLink own idx sx_y6 :: sx_W)
  | _ => none
set_option maxHeartbeats 4000000 in
theorem ri_nd_s {own : String} {idx : Nat} {q : ri_Lk} {ws : List Jvm.Cond} (h : ri_nd STR G own idx q = some ws) (hw : ∀ w ∈ ws, w ∈ ALL) : ri_link ALL STR G own idx q := by
  have i0 : ∀ {a : Jvm.Cond} {l : List Jvm.Cond}, a ∈ a :: l := List.mem_cons_self
  have i1 : ∀ {a b : Jvm.Cond} {l : List Jvm.Cond}, b ∈ a :: b :: l := List.mem_cons_of_mem _ List.mem_cons_self
  have i2 : ∀ {a b c : Jvm.Cond} {l : List Jvm.Cond}, c ∈ a :: b :: c :: l := List.mem_cons_of_mem _ (List.mem_cons_of_mem _ List.mem_cons_self)
  have i3 : ∀ {a b c d : Jvm.Cond} {l : List Jvm.Cond}, d ∈ a :: b :: c :: d :: l := List.mem_cons_of_mem _ (List.mem_cons_of_mem _ (List.mem_cons_of_mem _ List.mem_cons_self))
  unfold ri_nd at h
  split at h
  · split at h
    · next C T N e => split at h
                      · next hb => cases h; exact ⟨C, T, N, e, hb, hw _ i0⟩
                      · cases h
    · cases h
  · split at h
    · next C T N e => split at h
                      · next hb => cases h; exact ⟨C, T, N, e, hb, hw _ i0⟩
                      · cases h
    · cases h
  · split at h
    · next C T N e => cases h; exact ⟨C, T, N, e, hw _ i0, hw _ i1, hw _ i2⟩
    · cases h
  · split at h
    · next C e => cases h; exact ⟨C, e, hw _ i0, hw _ i1⟩
    · cases h
  · cases h; exact hw _ i0
  · split at h
    · next hf => cases h; exact ⟨hw _ i0, hw _ i1, hf⟩
    · cases h
  · split at h
    · next hf => exact hf
    · cases h
  · cases h; exact hw _ i0
  · split at h
    · next hf =>
      cases h
      rw [Bool.and_eq_true, List.all_eq_true, List.all_eq_true] at hf
      exact ⟨_, by decide, fun n hn => hf.1 n hn, fun w hq => ⟨hw w hq, hf.2 w hq⟩⟩
    · cases h
  · split at h
    · next hf =>
      cases h
      rw [List.all_eq_true] at hf
      exact fun w hq => ⟨hw w hq, hf w hq⟩
    · cases h
  · split at h
    · next M2 e => split at h
                   · next hf => cases h; exact ⟨M2, e, hf, hw _ i0, hw _ i1, hw _ i2⟩
                   · cases h
    · cases h
  · split at h
    · next M2 e => split at h
                   · next hf => cases h; exact ⟨M2, e, hf, hw _ i0, hw _ i1⟩
                   · cases h
    · cases h
  · split at h
    · next M2 e => split at h
                   · next hf => cases h; exact ⟨M2, e, hf.1, hw _ i0, hw _ i1, hf.2.1, hf.2.2⟩
                   · cases h
    · cases h
  · split at h
    · next M2 e => split at h
                   · next hf => cases h; exact ⟨M2, e, hf, hw _ i0, hw _ i1, hw _ i2⟩
                   · cases h
    · cases h
  · split at h
    · next M2 e => split at h
                   · next hf => cases h; exact ⟨M2, e, hf, hw _ i0, hw _ i1⟩
                   · cases h
    · cases h
  · split at h
    · next M2 e => split at h
                   · next hf => cases h; exact ⟨M2, e, hf.1, hw _ i0, hw _ i1, hf.2.1, hf.2.2⟩
                   · cases h
    · cases h
  · cases h; exact ⟨hw _ i0, hw _ i1, hw _ i2⟩
  · cases h; exact ⟨hw _ i0, hw _ i1, hw _ i2, hw _ i3⟩
  · cases h; exact ⟨hw _ i0, hw _ i1, hw _ i2, hw _ i3⟩
  · cases h; exact ⟨hw _ i0, hw _ i1, hw _ i2, hw _ i3⟩
  · cases h; exact ⟨hw _ List.mem_cons_self, fun w h9 => hw w (List.mem_cons_of_mem _ h9)⟩
  · cases h; exact ⟨hw _ List.mem_cons_self, fun w h9 => hw w (List.mem_cons_of_mem _ h9)⟩
  · cases h
/-- a word at its place: the number of its list, its place there -/
def ri_hs (T : List (List Jvm.Cond)) (w : Jvm.Cond) (h : Nat × Nat) : Bool := match T[h.1]? with
  | some l => match l[h.2]? with
    | some z => decide (z = w) && ri_warm w
    | none => false
  | none => false
theorem ri_hs_s {T : List (List Jvm.Cond)} {w : Jvm.Cond} {h : Nat × Nat} (e : ri_hs T w h = true) : w ∈ T.flatten.filter ri_warm := by
  unfold ri_hs at e
  split at e
  · next l hl =>
    split at e
    · next z hz =>
      rw [Bool.and_eq_true, decide_eq_true_iff] at e
      obtain ⟨rfl, e2⟩ := e
      exact List.mem_filter.mpr ⟨List.mem_flatten.mpr ⟨l, List.mem_of_getElem? hl, List.mem_of_getElem? hz⟩, e2⟩
    · cases e
  · cases e
def ri_hsW (T : List (List Jvm.Cond)) : List Jvm.Cond → List (Nat × Nat) → Bool
  | [], _ => true
  | w :: l, h :: r => ri_hs T w h && ri_hsW T l r
  | _ :: _, [] => false
theorem ri_hsW_s {T : List (List Jvm.Cond)} : ∀ (ws : List Jvm.Cond) (hs : List (Nat × Nat)), ri_hsW T ws hs = true → ∀ w ∈ ws, w ∈ T.flatten.filter ri_warm
  | [], _, _, w, hw => by cases hw
  | a :: l, h :: r, e, w, hw => by
    simp only [ri_hsW, Bool.and_eq_true] at e
    rcases List.mem_cons.mp hw with rfl | hw
    · exact ri_hs_s e.1
    · exact ri_hsW_s l r e.2 w hw
  | _ :: _, [], e, _, _ => by cases e
def ri_hsL (T : List (List Jvm.Cond)) (STR : List (String × Nat × String)) (G : ri_Tb) (own : String) : List (Nat × ri_Lk) → List (List (Nat × Nat)) → Bool
  | [], _ => true
  | q :: l, h :: r => (match ri_nd STR G own q.1 q.2 with
    | some ws => ri_hsW T ws h
    | none => false) && ri_hsL T STR G own l r
  | _ :: _, [] => false
theorem ri_hsL_s {T : List (List Jvm.Cond)} {own : String} : ∀ (ls : List (Nat × ri_Lk)) (hs : List (List (Nat × Nat))), ri_hsL T STR G own ls hs = true → ∀ q ∈ ls, ri_link (T.flatten.filter ri_warm) STR G own q.1 q.2
  | [], _, _, q, hq => by cases hq
  | a :: l, h :: r, e, q, hq => by
    simp only [ri_hsL, Bool.and_eq_true] at e
    rcases List.mem_cons.mp hq with rfl | hq
    · have e1 := e.1
      split at e1
      · next ws hws => exact ri_nd_s hws (ri_hsW_s _ _ e1)
      · cases e1
    · exact ri_hsL_s l r e.2 q hq
  | _ :: _, [], e, _, _ => by cases e
/-- where a word stands -/
def ri_place (T : List (List Jvm.Cond)) (w : Jvm.Cond) : Nat × Nat := match T.findIdx? (fun l => l.any (fun z => decide (z = w))) with
  | some i => (i, ((T[i]?.getD []).findIdx? (fun z => decide (z = w))).getD 99999)
  | none => (999, 999)
end RIQ1
end RIQ
/-! RI: the tables of kinds of objects and of methods, checked -/
section RIQ2
variable {STR : List (String × Nat × String)} {G : ri_Tb} {T0 : List (List Jvm.Cond)}
def ri_clB (T0 : List (List Jvm.Cond)) (r : vw_C) (tys : List FieldType) (h : List (Nat × Nat)) : Bool :=
  tys.length == r.2.2 && ((List.range r.2.2).all (fun k => decide (parseFieldDescriptor (r.2.1 k).2.2.1 = tys[k]?)) && ((List.range r.2.2).all (fun a => (List.range r.2.2).all (fun b => a == b || decide ((r.2.1 a).2.1 ≠ (r.2.1 b).2.1))) && ri_hsW T0 (u_ws r.1 r.2.1 r.2.2) h))
theorem ri_clB_s {r : vw_C} {tys : List FieldType} {h : List (Nat × Nat)} (e : ri_clB T0 r tys h = true) : tys.length = r.2.2 ∧ (∀ k, k < r.2.2 → parseFieldDescriptor (r.2.1 k).2.2.1 = tys[k]?) ∧ (∀ a, a < r.2.2 → ∀ b, b < r.2.2 → a ≠ b → (r.2.1 a).2.1 ≠ (r.2.1 b).2.1) ∧ ∀ w ∈ u_ws r.1 r.2.1 r.2.2, w ∈ T0.flatten.filter ri_warm := by
  simp only [ri_clB, Bool.and_eq_true, beq_iff_eq, List.all_eq_true, List.mem_range, decide_eq_true_iff, Bool.or_eq_true] at e
  obtain ⟨e1, e2, e3, e4⟩ := e
  exact ⟨e1, e2, fun a ha b hb hab => (e3 a ha b hb).resolve_left hab, ri_hsW_s _ _ e4⟩
def ri_clL (T0 : List (List Jvm.Cond)) : List vw_C → List (List FieldType) → List (List (Nat × Nat)) → Bool
  | [], _, _ => true
  | r :: l, t :: ts, h :: hs => ri_clB T0 r t h && ri_clL T0 l ts hs
  | _, _, _ => false
theorem ri_clL_s : ∀ (cl : List vw_C) (ts : List (List FieldType)) (hs : List (List (Nat × Nat))), ri_clL T0 cl ts hs = true → ∀ (ci : Nat) (r : vw_C), cl[ci]? = some r → ∃ tys : List FieldType, ts[ci]? = some tys ∧ tys.length = r.2.2 ∧ (∀ k, k < r.2.2 → parseFieldDescriptor (r.2.1 k).2.2.1 = tys[k]?) ∧ (∀ a, a < r.2.2 → ∀ b, b < r.2.2 → a ≠ b → (r.2.1 a).2.1 ≠ (r.2.1 b).2.1) ∧ ∀ w ∈ u_ws r.1 r.2.1 r.2.2, w ∈ T0.flatten.filter ri_warm
  | [], _, _, _, ci, r, hr => by simp at hr
  | r0 :: l, t :: ts, h :: hs, e, ci, r, hr => by
    simp only [ri_clL, Bool.and_eq_true] at e
    cases ci with
    | zero =>
      rw [List.getElem?_cons_zero] at hr
      cases hr
      exact ⟨t, rfl, ri_clB_s e.1⟩
    | succ ci =>
      rw [List.getElem?_cons_succ] at hr
      obtain ⟨tys, h1, h2⟩ := ri_clL_s l ts hs e.2 ci r hr
      exact ⟨tys, by rw [List.getElem?_cons_succ]; exact h1, h2⟩
  | _ :: _, [], _, e, _, _, _ => by simp [ri_clL] at e
  | _ :: _, _ :: _, [], e, _, _, _ => by simp [ri_clL] at e
theorem ri_clOK_s {hs : List (List (Nat × Nat))} (e : ri_clL T0 (ri_cls G) (ri_fts G) hs = true) : ri_clOK (T0.flatten.filter ri_warm) G := fun ci C T N hr => ri_clL_s _ _ _ e ci (C, T, N) hr
/-- a method's own words, its decoded code -/
def ri_moB (T0 : List (List Jvm.Cond)) (M : ri_Mt) (h : List (Nat × Nat)) : Bool := decide (ri_own M = (ri_nm M).cls) && (ri_hsW T0 [ri_hw M, .initialized (ri_nm M).cls] h && (goodWord (ri_hw M) && (Bundle.fit (ri_nm M).cls && Nat.ble (ri_mx M) 11)))
def ri_moL (T0 : List (List Jvm.Cond)) : List ri_Mt → List (List (Nat × Nat)) → Bool
  | [], _ => true
  | M :: l, h :: hs => ri_moB T0 M h && ri_moL T0 l hs
  | _, _ => false
def ri_mo (T0 : List (List Jvm.Cond)) (M : ri_Mt) : Prop := (ri_own M = (ri_nm M).cls ∧ ri_hw M ∈ T0.flatten.filter ri_warm ∧ goodWord (ri_hw M) = true ∧ Jvm.Cond.initialized (ri_nm M).cls ∈ T0.flatten.filter ri_warm ∧ Bundle.fit (ri_nm M).cls = true) ∧ 19 + ri_mx M ≤ 30
theorem ri_moL_s : ∀ (l : List ri_Mt) (hs : List (List (Nat × Nat))), ri_moL T0 l hs = true → ∀ M ∈ l, ri_mo T0 M
  | [], _, _, M, hM => by cases hM
  | a :: l, h :: hs, e, M, hM => by
    simp only [ri_moL, Bool.and_eq_true] at e
    rcases List.mem_cons.mp hM with rfl | hM
    · have e1 := e.1
      simp only [ri_moB, Bool.and_eq_true, decide_eq_true_iff] at e1
      obtain ⟨a1, a2, a3, a4, a5⟩ := e1
      have a6 := ri_hsW_s _ _ a2
      have a7 := Nat.le_of_ble_eq_true a5
      exact ⟨⟨a1, a6 _ List.mem_cons_self, a3, a6 _ (List.mem_cons_of_mem _ List.mem_cons_self), a4⟩, by omega⟩
    · exact ri_moL_s l hs e.2 M hM
  | _ :: _, [], e, _, _ => by simp [ri_moL] at e
def ri_deB (M : ri_Mt) : Bool := (List.range (ri_co M).length).all (fun pc => match (ri_co M)[pc]? with
  | some (some (i, len)) => decide (decode (ri_by M) pc = .ok (i, len))
  | _ => true)
theorem ri_deB_s {M : ri_Mt} (e : ri_deB M = true) : ∀ pc i len, (ri_co M)[pc]? = some (some (i, len)) → decode (ri_by M) pc = .ok (i, len) := by
  intro pc i len h
  have h1 := (List.all_eq_true.mp e) pc (List.mem_range.mpr (List.getElem?_eq_some_iff.mp h).1)
  rw [h] at h1
  exact decide_eq_true_iff.mp h1
end RIQ2
