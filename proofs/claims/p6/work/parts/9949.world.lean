/-! the world at the law's entry -/
section GW2
theorem g_str {own tx : String} {k : Nat} {A : Array Value} {s : State} (h : (Jvm.Cond.stringRef own k tx).before A s = true) : ∃ a, (Term.string own k).eval #[] s none [] s = some (.ref a) := by
  cases hc : s.vm.findClass own with
  | none => simp [Cond.before, Cond.holds, Cond.value, hc] at h
  | some cur =>
    obtain ⟨k9, cf, i, a, -, -, -, -, -, hev⟩ := Cond.stringRef_spec hc h
    exact ⟨a, hev⟩
def g_stw : List Jvm.Cond := [.eq (.static "java/lang/String" "COMPACT_STRINGS" "Z") (.int 1), .isRef (.static "jdk/internal/util/Preconditions" "SIOOBE_FORMATTER" sx_FD)]
theorem g_stw_in : g_stw.all (fun w => decide (w ∈ g_flat)) = true := by decide +kernel
def g_stt : List Jvm.Cond := [.laysStatic "java/lang/String" "COMPACT_STRINGS" "Z", .initialized "java/lang/String", .laysStatic "jdk/internal/util/Preconditions" "SIOOBE_FORMATTER" sx_FD, .initialized "jdk/internal/util/Preconditions"]
theorem g_stt_in : g_allT g_stt = true := by decide +kernel
theorem g_lit {b : Nat} {s : State} {q : String × Nat × String} {a : Nat} (hq : q ∈ g_STR) (hfl : ∀ w ∈ g_flat, w.before #[Value.ref b] s = true) (ha : (Term.string q.1 q.2.1).eval #[Value.ref b] s none [] s = some (.ref a)) : sx_L q.2.2 a (fun z => s.heap.size ≤ z) s s.heap := by
  obtain ⟨_, rfl, h1, h2⟩ := g_li q hq
  rw [Bool.and_eq_true] at h1
  obtain ⟨h3, h4⟩ := h1
  have hw : ∀ w ∈ g_litw q q.2.2.toList.length, w.before #[Value.ref b] s = true := fun w hw => hfl w (h2 w (List.mem_append_left _ hw))
  have hA : ∀ z : Nat, z < s.heap.size → ¬ (fun z => s.heap.size ≤ z) z := fun z h => Nat.not_le.mpr h
  have hn := Nat.le_of_ble_eq_true h3
  have he : ∀ j, j < q.2.2.toList.length → (g_lite q j (q.2.2.toList.getD j 'a')).before #[Value.ref b] s = true := fun j hj => by
    have h := g_les_in (q := q) q.2.2.toList 0 j hj
    rw [Nat.zero_add] at h
    exact hfl _ (h2 _ (List.mem_append_right _ h))
  obtain ⟨t, ht, hT⟩ := va_Tof (N := q.2.2.toList.length) (f := sx_f q.2.2) (by omega) (hw _ (List.mem_cons_of_mem _ (List.mem_cons_of_mem _ List.mem_cons_self))) (va_eqt (hw _ (List.mem_cons_of_mem _ (List.mem_cons_of_mem _ (List.mem_cons_of_mem _ List.mem_cons_self))))) (fun j hj => va_eqt (he j hj)) hA
  exact ⟨⟨hn, fun ch hc => Nat.le_of_ble_eq_true (List.all_eq_true.mp h4 ch hc)⟩, va_Oof (hw _ List.mem_cons_self) ha hA, vk_OFof ha (va_eqt (hw _ (List.mem_cons_of_mem _ List.mem_cons_self))) hA, t, vk_OFof ha ht hA, hT⟩
theorem g_world {p : Program} {s : State} {m : MethodId} {meth : Method} {c : Code} {b L : Nat} {xs : Nat → Int32} (hts : ∀ w ∈ lw_tbl, w.before #[Value.ref b] s = true) (hgv : (Jvm.Cond.and given_1 narrow_1).before #[Value.ref b] s = true) :
    ∃ (D : va_G) (tyc : Nat → ClassId), ri_St g_ALL g_STR g_G D tyc (g_sa s b) (fun q => s.heap.size ≤ q) s := by
  have hall : ∀ w ∈ g_ALL, ∀ a : Array Value, w.before a s = true := fun w hw => ri_warm_at (tb_warm w hw) (hts w (tb_in hw))
  have hfl := flat_of_before _ hgv
  have hna : ∀ w ∈ g_naw, w.before #[Value.ref b] s = true := fun w hw => hfl w (decide_eq_true_iff.mp (List.all_eq_true.mp g_naw_in w hw))
  have hcl := ri_clOK_s (G := g_G) tb_cl
  have h1 : ∀ k : Nat, ∃ (cC : ClassId) (iS : Nat → Nat), ∀ q : vw_C, (ri_cls g_G)[k]? = some q → u_Kn s q.1 q.2.1 q.2.2 cC iS := by
    intro k
    cases hk : (ri_cls g_G)[k]? with
    | none => exact ⟨0, fun _ => 0, fun q h => by cases h⟩
    | some r =>
      obtain ⟨C, T, N⟩ := r
      obtain ⟨tys, -, -, -, -, hw⟩ := hcl k C T N hk
      have hi : Jvm.Cond.instantiable C N ∈ lw_tbl := g_allT_s g_clw_in _ (List.mem_map.mpr ⟨(C, T, N), List.mem_of_getElem? hk, rfl⟩)
      obtain ⟨cC, iS, h⟩ := u_known (C := C) (T := T) (N := N) (n := N) hts (fun w hw9 => tb_in (hw w hw9)) (hts _ hi)
      exact ⟨cC, iS, fun q hq => by cases hq; exact h⟩
  have hA : ∀ (ty : FieldType), (Jvm.Cond.arrayClass ty).before #[Value.ref b] s = true → (∀ C, ty ≠ .object C) → ∃ cA : ClassId, ArrOfT s cA ty ∧ va_RA s cA ty := by
    intro ty h hn
    obtain ⟨cA, kA, comp, f1, f2, f3⟩ := Cond.arrayClass_spec h
    refine ⟨cA, fun n z => ⟨fun k hk => (by cases hk), kA, f2, comp, f3⟩, ?_⟩
    cases ty with
    | object C => exact absurd rfl (hn C)
    | _ => exact f1
  have hO : ∀ (C : String), (Jvm.Cond.arrayOver (.object C)).before #[Value.ref b] s = true → ∃ cA : ClassId, ArrOfT s cA (.object C) ∧ va_RA s cA (.object C) := by
    intro C h
    obtain ⟨comp, cA, kA, f1, -, f2, f3, f4⟩ := Cond.arrayOver_spec h
    exact ⟨cA, fun n z => ⟨fun k hk => (by cases hk), kA, f2, comp, f3⟩, kA, comp, f2, f3, f1, f4⟩
  have ht : ∀ w ∈ g_tyw, w.before #[Value.ref b] s = true := fun w hw => hts w (g_allT_s g_tyw_in w hw)
  have h2 : ∀ k : Nat, ∃ cA : ClassId, ∀ ty : FieldType, (ri_aty g_G)[k]? = some ty → ArrOfT s cA ty ∧ va_RA s cA ty := by
    intro k
    match k with
    | 0 => obtain ⟨cA, h⟩ := hA .int (ht _ List.mem_cons_self) (fun C z => by cases z); exact ⟨cA, fun ty hty => by cases hty; exact h⟩
    | 1 => obtain ⟨cA, h⟩ := hO "PartitionBench$Disk" (ht _ (List.mem_cons_of_mem _ List.mem_cons_self)); exact ⟨cA, fun ty hty => by cases hty; exact h⟩
    | 2 => obtain ⟨cA, h⟩ := hO "PartitionBench$Part" (ht _ (List.mem_cons_of_mem _ (List.mem_cons_of_mem _ List.mem_cons_self))); exact ⟨cA, fun ty hty => by cases hty; exact h⟩
    | 3 => obtain ⟨cA, h⟩ := hA .long (ht _ (List.mem_cons_of_mem _ (List.mem_cons_of_mem _ (List.mem_cons_of_mem _ List.mem_cons_self)))) (fun C z => by cases z); exact ⟨cA, fun ty hty => by cases hty; exact h⟩
    | k + 4 => exact ⟨0, fun ty hty => by cases hty⟩
  have hth : ∀ w ∈ g_thw, w.before #[Value.ref b] s = true := fun w hw => hts w (g_allT_s g_thw_in w hw)
  refine ⟨(fun k => Classical.choose (h1 k), fun k => Classical.choose (Classical.choose_spec (h1 k))), fun k => Classical.choose (h2 k), hall, ⟨fun k q hq => Classical.choose_spec (Classical.choose_spec (h1 k)) q hq, fun k q hq => ?_⟩, fun q hq => ?_, ?_, ?_, fun q hq h0 => ?_, ?_⟩
  · unfold ri_tys at hq
    rw [List.getElem?_mapIdx] at hq
    obtain ⟨ty, hty, rfl⟩ := Option.map_eq_some_iff.mp hq
    exact Classical.choose_spec (h2 k) ty hty
  · have hw := hts _ (g_allT_s g_STR_in _ (List.mem_map.mpr ⟨q, hq, rfl⟩))
    obtain ⟨a, ha⟩ := g_str hw
    have e : g_sa s b q.1 q.2.1 = a := by
      unfold g_sa
      rw [if_neg (g_STR_ne q hq), ha]
    rw [e]
    exact ⟨hw, ha⟩
  · exact vx_Zqof (hth _ (List.mem_cons_of_mem _ List.mem_cons_self)) (hth _ List.mem_cons_self) (hna _ (List.mem_append_left _ List.mem_cons_self)) (fun a h => Nat.not_le.mpr h)
  · exact vx_Zqof (hth _ (List.mem_cons_of_mem _ (List.mem_cons_of_mem _ List.mem_cons_self))) (hth _ List.mem_cons_self) (hna _ (List.mem_append_left _ (List.mem_cons_of_mem _ List.mem_cons_self))) (fun a h => Nat.not_le.mpr h)
  · exact va_Nc.of (hna _ (List.mem_append_right _ (List.mem_map.mpr ⟨q, List.mem_filter.mpr ⟨hq, by rw [h0]; rfl⟩, rfl⟩)))
  · have hst : ∀ w ∈ g_stw, w.before #[Value.ref b] s = true := fun w hw => hfl w (decide_eq_true_iff.mp (List.all_eq_true.mp g_stw_in w hw))
    have htt : ∀ w ∈ g_stt, w.before #[Value.ref b] s = true := fun w hw => hts w (g_allT_s g_stt_in w hw)
    have hA0 : ∀ z : Nat, z < s.heap.size → ¬ (fun z => s.heap.size ≤ z) z := fun z h => Nat.not_le.mpr h
    refine ⟨fun q hq => ?_, va_Zof (htt _ List.mem_cons_self) (htt _ (List.mem_cons_of_mem _ List.mem_cons_self)) (va_eqt (hst _ List.mem_cons_self)) hA0, va_Zqof (htt _ (List.mem_cons_of_mem _ (List.mem_cons_of_mem _ List.mem_cons_self))) (htt _ (List.mem_cons_of_mem _ (List.mem_cons_of_mem _ (List.mem_cons_of_mem _ List.mem_cons_self)))) (hst _ (List.mem_cons_of_mem _ List.mem_cons_self)) hA0⟩
    have hw := hts _ (g_allT_s g_STR_in _ (List.mem_map.mpr ⟨q, hq, rfl⟩))
    obtain ⟨a, ha⟩ := g_str hw
    have e : g_sa s b q.1 q.2.1 = a := by
      unfold g_sa
      rw [if_neg (g_STR_ne q hq), ha]
    rw [e]
    exact g_lit hq hfl ha
end GW2
