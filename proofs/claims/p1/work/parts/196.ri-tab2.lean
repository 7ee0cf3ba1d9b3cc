/-! RI: the tables of kinds of objects and of methods, checked -/
section RIQ2
variable {STR : List (String × Nat × String)} {G : ri_Tb} {T0 : List (List Jvm.Cond)}
def ri_clB (T0 : List (List Jvm.Cond)) (r : vw_C) (tys : List FieldType) (h : List (Nat × Nat)) : Bool :=
  tys.length == r.2.2 && ((List.range r.2.2).all (fun k => decide (parseFieldDescriptor (r.2.1 k).2.2.1 = tys[k]?)) && ((List.range r.2.2).all (fun a => (List.range r.2.2).all (fun b => a == b || decide ((r.2.1 a).2.1 ≠ (r.2.1 b).2.1))) && ri_hsW T0 (u_ws r.1 r.2.1 r.2.2) h))
theorem ri_clB_s {r : vw_C} {tys : List FieldType} {h : List (Nat × Nat)} (e : ri_clB T0 r tys h = true) : tys.length = r.2.2 ∧ (∀ k, k < r.2.2 → parseFieldDescriptor (r.2.1 k).2.2.1 = tys[k]?) ∧ (∀ a, a < r.2.2 → ∀ b, b < r.2.2 → a ≠ b → (r.2.1 a).2.1 ≠ (r.2.1 b).2.1) ∧ ∀ w ∈ u_ws r.1 r.2.1 r.2.2, w ∈ T0.flatten.filter ri_warm := by
  simp only [ri_clB, Bool.and_eq_true, beq_iff_eq, List.all_eq_true, List.mem_range, decide_eq_true_iff, Bool.or_eq_true] at e
  obtain ⟨e1, e2, e3, e4⟩ := e
  exact ⟨e1, e2, fun a ha b hb hab => (e3 a ha b hb).resolve_left hab, ri_hsW_s _ _ e4⟩
def ri_clL (T0 : List (List Jvm.Cond)) : List vw_C → List (List FieldType) → List (List (Nat × Nat)) → Bool
  | [], _, _ => true
  | r :: l, t :: ts, h :: hs => ri_clB T0 r t h && ri_clL T0 l ts hs
  | _, _, _ => false
theorem ri_clL_s : ∀ (cl : List vw_C) (ts : List (List FieldType)) (hs : List (List (Nat × Nat))), ri_clL T0 cl ts hs = true → ∀ (ci : Nat) (r : vw_C), cl[ci]? = some r → ∃ tys : List FieldType, ts[ci]? = some tys ∧ tys.length = r.2.2 ∧ (∀ k, k < r.2.2 → parseFieldDescriptor (r.2.1 k).2.2.1 = tys[k]?) ∧ (∀ a, a < r.2.2 → ∀ b, b < r.2.2 → a ≠ b → (r.2.1 a).2.1 ≠ (r.2.1 b).2.1) ∧ ∀ w ∈ u_ws r.1 r.2.1 r.2.2, w ∈ T0.flatten.filter ri_warm
  | [], _, _, _, ci, r, hr => by simp at hr
  | r0 :: l, t :: ts, h :: hs, e, ci, r, hr => by
    simp only [ri_clL, Bool.and_eq_true] at e
    cases ci with
    | zero =>
      rw [List.getElem?_cons_zero] at hr
      cases hr
      exact ⟨t, rfl, ri_clB_s e.1⟩
    | succ ci =>
      rw [List.getElem?_cons_succ] at hr
      obtain ⟨tys, h1, h2⟩ := ri_clL_s l ts hs e.2 ci r hr
      exact ⟨tys, by rw [List.getElem?_cons_succ]; exact h1, h2⟩
  | _ :: _, [], _, e, _, _, _ => by simp [ri_clL] at e
  | _ :: _, _ :: _, [], e, _, _, _ => by simp [ri_clL] at e
theorem ri_clOK_s {hs : List (List (Nat × Nat))} (e : ri_clL T0 (ri_cls G) (ri_fts G) hs = true) : ri_clOK (T0.flatten.filter ri_warm) G := fun ci C T N hr => ri_clL_s _ _ _ e ci (C, T, N) hr
/-- a method's own words, its decoded code -/
def ri_moB (T0 : List (List Jvm.Cond)) (M : ri_Mt) (h : List (Nat × Nat)) : Bool := decide (ri_own M = (ri_nm M).cls) && (ri_hsW T0 [ri_hw M, .initialized (ri_nm M).cls] h && (goodWord (ri_hw M) && (Bundle.fit (ri_nm M).cls && Nat.ble (ri_mx M) 11)))
def ri_moL (T0 : List (List Jvm.Cond)) : List ri_Mt → List (List (Nat × Nat)) → Bool
  | [], _ => true
  | M :: l, h :: hs => ri_moB T0 M h && ri_moL T0 l hs
  | _, _ => false
def ri_mo (T0 : List (List Jvm.Cond)) (M : ri_Mt) : Prop := (ri_own M = (ri_nm M).cls ∧ ri_hw M ∈ T0.flatten.filter ri_warm ∧ goodWord (ri_hw M) = true ∧ Jvm.Cond.initialized (ri_nm M).cls ∈ T0.flatten.filter ri_warm ∧ Bundle.fit (ri_nm M).cls = true) ∧ 19 + ri_mx M ≤ 30
theorem ri_moL_s : ∀ (l : List ri_Mt) (hs : List (List (Nat × Nat))), ri_moL T0 l hs = true → ∀ M ∈ l, ri_mo T0 M
  | [], _, _, M, hM => by cases hM
  | a :: l, h :: hs, e, M, hM => by
    simp only [ri_moL, Bool.and_eq_true] at e
    rcases List.mem_cons.mp hM with rfl | hM
    · have e1 := e.1
      simp only [ri_moB, Bool.and_eq_true, decide_eq_true_iff] at e1
      obtain ⟨a1, a2, a3, a4, a5⟩ := e1
      have a6 := ri_hsW_s _ _ a2
      have a7 := Nat.le_of_ble_eq_true a5
      exact ⟨⟨a1, a6 _ List.mem_cons_self, a3, a6 _ (List.mem_cons_of_mem _ List.mem_cons_self), a4⟩, by omega⟩
    · exact ri_moL_s l hs e.2 M hM
  | _ :: _, [], e, _, _ => by simp [ri_moL] at e
def ri_deB (M : ri_Mt) : Bool := (List.range (ri_co M).length).all (fun pc => match (ri_co M)[pc]? with
  | some (some (i, len)) => decide (decode (ri_by M) pc = .ok (i, len))
  | _ => true)
theorem ri_deB_s {M : ri_Mt} (e : ri_deB M = true) : ∀ pc i len, (ri_co M)[pc]? = some (some (i, len)) → decode (ri_by M) pc = .ok (i, len) := by
  intro pc i len h
  have h1 := (List.all_eq_true.mp e) pc (List.mem_range.mpr (List.getElem?_eq_some_iff.mp h).1)
  rw [h] at h1
  exact decide_eq_true_iff.mp h1
end RIQ2
