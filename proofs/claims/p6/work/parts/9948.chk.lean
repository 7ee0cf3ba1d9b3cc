/-! what the program shows of its tables, all together; the world at the law's entry -/
section GW
theorem tb_mem {P : ri_Mt → Prop} (h0 : ∀ M ∈ g_mts_0, P M) (h1 : ∀ M ∈ g_mts_1, P M) (h2 : ∀ M ∈ g_mts_2, P M) (h3 : ∀ M ∈ g_mts_3, P M) (h4 : ∀ M ∈ g_mts_4, P M) (h5 : ∀ M ∈ g_mts_5, P M) (h6 : ∀ M ∈ g_mts_6, P M) (h7 : ∀ M ∈ g_mts_7, P M) (h8 : ∀ M ∈ g_mts_8, P M) (h9 : ∀ M ∈ g_mts_9, P M) : ∀ M ∈ g_mts, P M := by
  intro M hM
  unfold g_mts at hM
  rcases List.mem_append.mp hM with hM | hM
  · rcases List.mem_append.mp hM with hM | hM
    · rcases List.mem_append.mp hM with hM | hM
      · rcases List.mem_append.mp hM with hM | hM
        · rcases List.mem_append.mp hM with hM | hM
          · rcases List.mem_append.mp hM with hM | hM
            · rcases List.mem_append.mp hM with hM | hM
              · rcases List.mem_append.mp hM with hM | hM
                · rcases List.mem_append.mp hM with hM | hM
                  · exact h0 M hM
                  · exact h1 M hM
                · exact h2 M hM
              · exact h3 M hM
            · exact h4 M hM
          · exact h5 M hM
        · exact h6 M hM
      · exact h7 M hM
    · exact h8 M hM
  · exact h9 M hM
def tb_ow (k : Nat) : String := match k with
  | 0 => RX0 | 1 => RX1 | 2 => RX2 | 3 => RX3 | 4 => RX4 | 5 => RX5 | 6 => RX6 | 7 => RX7 | 8 => RX8 | _ => RL
def tb_owB (M : ri_Mt) : Bool := decide (ri_own M = tb_ow (ri_pn M)) && Nat.ble (ri_pn M) 9
theorem tb_o0 : g_mts_0.all tb_owB = true := by decide +kernel
theorem tb_o1 : g_mts_1.all tb_owB = true := by decide +kernel
theorem tb_o2 : g_mts_2.all tb_owB = true := by decide +kernel
theorem tb_o3 : g_mts_3.all tb_owB = true := by decide +kernel
theorem tb_o4 : g_mts_4.all tb_owB = true := by decide +kernel
theorem tb_o5 : g_mts_5.all tb_owB = true := by decide +kernel
theorem tb_o6 : g_mts_6.all tb_owB = true := by decide +kernel
theorem tb_o7 : g_mts_7.all tb_owB = true := by decide +kernel
theorem tb_o8 : g_mts_8.all tb_owB = true := by decide +kernel
theorem tb_o9 : g_mts_9.all tb_owB = true := by decide +kernel
theorem tb_all {l : List ri_Mt} {f : ri_Mt → Bool} (h : l.all f = true) : ∀ M ∈ l, f M = true := List.all_eq_true.mp h
theorem tb_own : ∀ M ∈ g_mts, tb_owB M = true := tb_mem (tb_all tb_o0) (tb_all tb_o1) (tb_all tb_o2) (tb_all tb_o3) (tb_all tb_o4) (tb_all tb_o5) (tb_all tb_o6) (tb_all tb_o7) (tb_all tb_o8) (tb_all tb_o9)
/-- the links, by the number of their owner -/
theorem tb_lk (k : Nat) (hk : k ≤ 9) : ∀ q ∈ (ri_cps g_G).getD k [], ri_link g_ALL g_STR g_G (tb_ow k) q.1 q.2 := by
  match k, hk with
  | 0, _ => exact ri_hsL_s g_cp_0 g_h_0 tb_l0
  | 1, _ => exact ri_hsL_s g_cp_1 g_h_1 tb_l1
  | 2, _ => exact ri_hsL_s g_cp_2 g_h_2 tb_l2
  | 3, _ => exact ri_hsL_s g_cp_3 g_h_3 tb_l3
  | 4, _ => exact ri_hsL_s g_cp_4 g_h_4 tb_l4
  | 5, _ => exact ri_hsL_s g_cp_5 g_h_5 tb_l5
  | 6, _ => exact ri_hsL_s g_cp_6 g_h_6 tb_l6
  | 7, _ => exact ri_hsL_s g_cp_7 g_h_7 tb_l7
  | 8, _ => exact ri_hsL_s g_cp_8 g_h_8 tb_l8
  | 9, _ => exact ri_hsL_s g_cp_9 g_h_9 tb_l9
  | k + 10, h => omega
theorem tb_lkOK : ri_lkOK g_ALL g_STR g_G := by
  intro M hM q hq
  have h := tb_own M hM
  unfold tb_owB at h
  rw [Bool.and_eq_true, decide_eq_true_iff] at h
  rw [h.1]
  exact tb_lk _ (Nat.le_of_ble_eq_true h.2) q hq
theorem tb_lkLaw : ri_lkM g_ALL g_STR g_G g_law := fun q hq => ri_hsL_s g_cp_9 g_h_9 tb_l9 q hq
def g_lawP : ri_Mt := (RL, x, code, 9, ret, g_co_law, 9, [])
theorem tb_lkLawP : ri_lkM g_ALL g_STR g_G g_lawP := fun q hq => ri_hsL_s g_cp_9 g_h_9 tb_l9 q hq
theorem tb_mo : ∀ M ∈ g_mts, ri_mo g_TT M := tb_mem (ri_moL_s _ _ tb_m0) (ri_moL_s _ _ tb_m1) (ri_moL_s _ _ tb_m2) (ri_moL_s _ _ tb_m3) (ri_moL_s _ _ tb_m4) (ri_moL_s _ _ tb_m5) (ri_moL_s _ _ tb_m6) (ri_moL_s _ _ tb_m7) (ri_moL_s _ _ tb_m8) (ri_moL_s _ _ tb_m9)
theorem tb_de : ∀ M ∈ g_mts, ds_deB M = true := tb_mem (tb_all tb_d0) (tb_all tb_d1) (tb_all tb_d2) (tb_all tb_d3) (tb_all tb_d4) (tb_all tb_d5) (tb_all tb_d6) (tb_all tb_d7) (tb_all tb_d8) (tb_all tb_d9)
theorem tb_warm : ∀ w ∈ g_ALL, ri_warm w = true := fun w hw => (List.mem_filter.mp hw).2
theorem tb_TB : ri_TB g_ALL g_STR g_G 30 := ⟨ri_clOK_s (G := g_G) tb_cl, tb_lkOK, tb_warm, fun M hM => (tb_mo M hM).2, fun M hM => (tb_mo M hM).1, tb_ac, fun M hM => ds_deB_s (tb_de M hM), tb_nc⟩
theorem tb_in0 {w : Jvm.Cond} (h : w ∈ g_TT.flatten) : w ∈ lw_tbl := by
  obtain ⟨l, hl, hw⟩ := List.mem_flatten.mp h
  unfold lw_tbl tables_1
  simp only [g_TT, List.mem_cons, List.not_mem_nil, or_false] at hl
  simp only [List.mem_append]
  rcases hl with rfl | rfl | rfl | rfl | rfl | rfl | rfl | rfl | rfl | rfl
  · exact Or.inr (Or.inl hw)
  · exact Or.inr (Or.inr (Or.inl hw))
  · exact Or.inr (Or.inr (Or.inr (Or.inl hw)))
  · exact Or.inr (Or.inr (Or.inr (Or.inr (Or.inl hw))))
  · exact Or.inr (Or.inr (Or.inr (Or.inr (Or.inr (Or.inl hw)))))
  · exact Or.inr (Or.inr (Or.inr (Or.inr (Or.inr (Or.inr (Or.inl hw))))))
  · exact Or.inr (Or.inr (Or.inr (Or.inr (Or.inr (Or.inr (Or.inr (Or.inl hw)))))))
  · exact Or.inr (Or.inr (Or.inr (Or.inr (Or.inr (Or.inr (Or.inr (Or.inr (Or.inl hw))))))))
  · exact Or.inr (Or.inr (Or.inr (Or.inr (Or.inr (Or.inr (Or.inr (Or.inr (Or.inr hw))))))))
  · exact Or.inl hw
theorem tb_in {w : Jvm.Cond} (h : w ∈ g_ALL) : w ∈ lw_tbl := tb_in0 (List.mem_filter.mp h).1
theorem ri_warm_at {w : Jvm.Cond} {s : State} {a0 : Array Value} (hw : ri_warm w = true) (h : w.before a0 s = true) : ∀ a : Array Value, w.before a s = true := by
  intro a
  by_cases hg : goodWord w = true
  · exact word_at (State.WarmedH.refl s) (good_of_word hg) h
  · unfold ri_warm at hw
    split at hw
    · exact h
    · exact h
    · exact h
    · exact h
    · exact h
    · exact absurd hw hg
/-- where the texts lie, the script at the place of "" 0 -/
noncomputable def g_sa (s : State) (b : Nat) : String → Nat → Nat := fun own k => if own = "" then b else match (Term.string own k).eval #[] s none [] s with
  | some (.ref a) => a
  | _ => 0
theorem g_STR_ne : ∀ q ∈ g_STR, q.1 ≠ "" := by
  have h : g_STR.all (fun q => decide (q.1 ≠ "")) = true := by decide +kernel
  intro q hq
  exact decide_eq_true_iff.mp (List.all_eq_true.mp h q hq)
/-- a word of the tables, by its place -/
def g_atT (w : Jvm.Cond) (h : Nat × Nat) : Bool := match g_TT[h.1]? with
  | some l => match l[h.2]? with
    | some z => decide (z = w)
    | none => false
  | none => false
theorem g_atT_s {w : Jvm.Cond} {h : Nat × Nat} (e : g_atT w h = true) : w ∈ g_TT.flatten := by
  unfold g_atT at e
  split at e
  · next l hl =>
    split at e
    · next z hz =>
      rw [decide_eq_true_iff] at e
      subst e
      exact List.mem_flatten.mpr ⟨l, List.mem_of_getElem? hl, List.mem_of_getElem? hz⟩
    · cases e
  · cases e
def g_allT (ws : List Jvm.Cond) : Bool := ws.all (fun w => g_atT w (ri_place g_TT w))
theorem g_allT_s {ws : List Jvm.Cond} (e : g_allT ws = true) : ∀ w ∈ ws, w ∈ lw_tbl := fun w hw => tb_in0 (g_atT_s (List.all_eq_true.mp e w hw))
def g_STRw : List Jvm.Cond := g_STR.map (fun q => Jvm.Cond.stringRef q.1 q.2.1 q.2.2)
theorem g_STR_in : g_allT g_STRw = true := by decide +kernel
def g_clw : List Jvm.Cond := g_cls.map (fun r => Jvm.Cond.instantiable r.1 r.2.2)
theorem g_clw_in : g_allT g_clw = true := by decide +kernel
def g_tyw : List Jvm.Cond := [.arrayClass .int, .arrayOver (.object "PartitionBench$Disk"), .arrayOver (.object "PartitionBench$Part"), .arrayClass .long]
theorem g_tyw_in : g_allT g_tyw = true := by decide +kernel
def g_thw : List Jvm.Cond := [.initialized Bundle.tN, .laysStatic Bundle.tN "UNASSIGNED_STACK" Bundle.steD, .laysStatic Bundle.tN "SUPPRESSED_SENTINEL" Bundle.listD]
theorem g_thw_in : g_allT g_thw = true := by decide +kernel
def g_flat : List Jvm.Cond := flatC (Jvm.Cond.and given_1 narrow_1)
def g_naw : List Jvm.Cond := [.isRef (.static Bundle.tN "UNASSIGNED_STACK" Bundle.steD), .isRef (.static Bundle.tN "SUPPRESSED_SENTINEL" Bundle.listD)] ++ (g_nc.filter (fun q => !q.2.2)).map (fun q => Jvm.Cond.not (.castable q.1 q.2.1))
theorem g_naw_in : g_naw.all (fun w => decide (w ∈ g_flat)) = true := by decide +kernel
end GW
