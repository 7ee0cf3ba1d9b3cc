/-! the law up to its loop: both objects made; what the cells hold there -/
section GP
def g_okE (r : ri_Rs) : Bool := r.1.isEmpty && (Nat.ble r.2.1 6000 && (Nat.ble r.2.2.1 80000 && r.2.2.2.isEmpty))
def g_id : List Nat := List.range 192
noncomputable def g_pre : Bool := rz_o false g_okE (ry_runB g_G (ry_call g_G 30000 12) g_lawP (ri_gs g_id 23 g_lv0 [] [] g_mem0 4000 20000 ri_B0) 13 0 [(0, .string "" 0)] [] [] [])
theorem t_pre : g_pre = true := by decide +kernel
theorem g_fit0 : ri_fitB g_id g_lv0 [] g_mem0 = true := by decide +kernel
theorem g_ex {f : ri_Rs → Bool} {o : Option ri_Rs} (h : rz_o false f o = true) : ∃ r, o = some r ∧ f r = true := by
  cases o with
  | none => cases h
  | some r => exact ⟨r, rfl, h⟩
theorem g_preW : ∃ r, ry_runB g_G (ry_call g_G 30000 12) g_lawP (ri_gs g_id 23 g_lv0 [] [] g_mem0 4000 20000 ri_B0) 13 0 [(0, .string "" 0)] [] [] [] = some r ∧ g_okE r = true := g_ex (f := g_okE) t_pre
def g_vl (t : Jvm.Term) : Int32 := match t with
  | .int v => v
  | .long v => v.toInt32
  | _ => 0
def g_f (e : ri_Ce) : Nat → Int32 := fun j => match e with
  | .inl (_, fs) => g_vl (fs.getD j .null)
  | .inr (_, _, d, ov) => g_vl (ri_look d ov j)
def g_s0 : ra_V := fun k => match g_mem0[k]? with
  | some e => g_f e
  | none => fun _ => 0
def g_isI (t : Jvm.Term) : Bool := match t with
  | .int _ => true
  | _ => false
def g_cB (f : Nat → Int32) : ra_Hc → ri_Ce → Bool
  | .inl (ci, fl), .inl (ci2, fs) => ci2 == ci && decide (fs = ra_fs f fl)
  | .inr (ty, n, lg, none), .inr (ty2, n2, d, ov) => ty2 == ty && (n2 == n && (if lg = true then (decide (d = .long 0) && ov.isEmpty) else (g_isI d && ov.all (fun q => g_isI q.2))))
  | .inr (ty, n, _, some l), .inr (ty2, n2, d, ov) => ty2 == ty && (n2 == n && (List.range n).all (fun j => decide (l[j]? = some (ri_look d ov j))))
  | _, _ => false
theorem g_look {d : Jvm.Term} {ov : List (Nat × Jvm.Term)} {j : Nat} (h1 : g_isI d = true) (h2 : ∀ q ∈ ov, g_isI q.2 = true) : g_isI (ri_look d ov j) = true := by
  unfold ri_look
  cases hf : ov.find? (fun q => q.1 == j) with
  | none => simpa [hf] using h1
  | some q => simpa [hf] using h2 q (List.mem_of_find?_eq_some hf)
theorem g_isI_s {t : Jvm.Term} (h : g_isI t = true) : t = .int (g_vl t) := by
  unfold g_isI at h
  split at h
  · rfl
  · cases h
theorem g_cB_s {h : ra_Hc} {e : ri_Ce} (q : g_cB (g_f e) h e = true) : ra_cell (g_f e) h e := by
  match h, e, q with
  | .inl (ci, fl), .inl (ci2, fs), q =>
    simp only [g_cB, Bool.and_eq_true, beq_iff_eq, decide_eq_true_iff] at q
    exact q
  | .inr (ty, n, lg, none), .inr (ty2, n2, d, ov), q =>
    simp only [g_cB, Bool.and_eq_true, beq_iff_eq] at q
    obtain ⟨q1, q2, q3⟩ := q
    refine ⟨q1, q2, fun j _ => ?_⟩
    by_cases c : lg = true
    · rw [if_pos c] at q3 ⊢
      simp only [Bool.and_eq_true, decide_eq_true_iff, List.isEmpty_iff] at q3
      obtain ⟨rfl, rfl⟩ := q3
      rfl
    · rw [if_neg c] at q3 ⊢
      simp only [Bool.and_eq_true, List.all_eq_true] at q3
      exact g_isI_s (g_look q3.1 (fun z hz => q3.2 z hz))
  | .inr (ty, n, lg, some l), .inr (ty2, n2, d, ov), q =>
    simp only [g_cB, Bool.and_eq_true, beq_iff_eq, List.all_eq_true, List.mem_range, decide_eq_true_iff] at q
    exact ⟨q.1, q.2.1, fun j hj => q.2.2 j hj⟩
  | .inl (ci, fl), .inr (ty2, n2, d, ov), q => cases q
  | .inr (ty, n, lg, none), .inl (ci2, fs), q => cases q
  | .inr (ty, n, lg, some l), .inl (ci2, fs), q => cases q
def g_at (k : Nat) : Bool := match g_sh[k]?, g_mem0[k]? with
  | some h, some e => g_cB (g_f e) h e
  | _, _ => false
theorem g_all0 : (List.range 192).all g_at = true := by decide +kernel
theorem g_len0 : g_mem0.length = 192 := by decide +kernel
theorem g_rep0 : ra_rep g_sh g_s0 g_mem0 := by
  refine ⟨g_len0.trans sh_len.symm, fun k h hk => ?_⟩
  have hl : k < 192 := by
    have := (List.getElem?_eq_some_iff.mp hk).1
    rw [sh_len] at this
    exact this
  have h1 := List.all_eq_true.mp g_all0 k (List.mem_range.mpr hl)
  unfold g_at at h1
  rw [hk] at h1
  cases he : g_mem0[k]? with
  | none => rw [he] at h1; cases h1
  | some e =>
    rw [he] at h1
    refine ⟨e, rfl, ?_⟩
    have e2 : g_s0 k = g_f e := by unfold g_s0; rw [he]
    rw [e2]
    exact g_cB_s h1
theorem g_row0 : (List.range 88).all (fun a => decide (ra_g g_s0 180 a = if a = 0 then 64 else if a = 3 then 1 else if a = 4 then 4 else if a = 16 then -1 else 0)) = true := by decide +kernel
theorem g_row (a : Nat) (h : a < 88) : ra_g g_s0 180 a = if a = 0 then 64 else if a = 3 then 1 else if a = 4 then 4 else if a = 16 then -1 else 0 := decide_eq_true_iff.mp (List.all_eq_true.mp g_row0 a (List.mem_range.mpr h))
theorem g_n5 : ra_g g_s0 179 5 = 0 := by decide +kernel
theorem g_n6 : ra_g g_s0 179 6 = 0 := by decide +kernel
theorem g_n12 : ra_g g_s0 179 12 = 0 := by decide +kernel
theorem g_n25 : ra_g g_s0 179 25 = 0 := by decide +kernel
theorem g_n175 : ra_g g_s0 175 1 = 0 := by decide +kernel
theorem g_n13 : ra_g g_s0 179 13 = ra_g g_s0 175 2 := by decide +kernel
theorem g_n14 : ra_g g_s0 179 14 = ra_g g_s0 175 3 := by decide +kernel
theorem g_n40 : ra_g g_s0 40 1 = 0 := by decide +kernel
theorem g_liv0 : LIV g_s0 := by
  refine ⟨⟨by rw [g_n40]; decide, by rw [g_n40]; decide⟩, ⟨?_, pw_0 g_n5, fun q => absurd g_n6 q, by rw [g_n12]; decide, by rw [g_n25]; decide⟩, by rw [g_n175, g_n12], fun i hi => by rw [g_n12] at hi; omega, g_n13.symm, g_n14.symm⟩
  exact wf_clear (x := 64) (by decide) (g_row 0 (by decide)) (g_row 3 (by decide)) (g_row 4 (by decide)) (g_row 16 (by decide)) (fun a h h0 h3 h4 h16 => by rw [g_row a h, if_neg h0, if_neg h3, if_neg h4, if_neg h16])
def g_lvB (i : Nat) : Bool := match (lwL 0)[i]? with
  | some (some t) => decide (ri_ld g_lv0 i = some t)
  | _ => true
theorem g_lv9 : (List.range 9).all g_lvB = true := by decide +kernel
theorem g_lvok : ra_lv g_lv0 (lwL 0) := fun i t h => by
  have hl : i < 9 := (List.getElem?_eq_some_iff.mp h).1
  have h1 := List.all_eq_true.mp g_lv9 i (List.mem_range.mpr hl)
  unfold g_lvB at h1
  rw [h] at h1
  exact decide_eq_true_iff.mp h1
end GP
