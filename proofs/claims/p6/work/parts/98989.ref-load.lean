/-! T4: what the reference's methods that read a text do (printed by wip/gen/r4.py) -/
section
variable {B : Nat → Int} {bn ps ta ti : Nat} {r : Nat → Int}
theorem l4_202_4 {n : Nat} {f : Nat → Int32} {d : Nat}  {σ : ra_V} (hld : LD σ) : ∀ (nn : Nat) (v1 : Int) (v2 : Int) (hv1_0 : v1 = min v2 (ra_g σ 180 5)) (hv2_0 : 0 ≤ v2) (hv2_1 : v2 ≤ 8) (hm : ((8 - v2 : Int)).toNat < nn), ra_P (g_Gs n f) g_sh 0 (d + 1) g_m_X8_partsMany 4 [some (.index (179)), some (ra_I v1), some (ra_I v2)] [] σ (fun r9 s => (∃ z, ra_in z ∧ (z = ra_g σ 180 5) ∧ r9 = .inl (some (ra_I z))) ∧ s = σ) := by
  intro nn
  induction nn with
  | zero => intro v1 v2 hv1_0 hv2_0 hv2_1 hm; exact absurd hm (Nat.not_lt_zero _)
  | succ nn ih =>
    intro v1 v2 hv1_0 hv2_0 hv2_1 hm
    have hld0 := hld
    obtain ⟨l1, l2, l3, l4⟩ := hld0
    have l4v := l4 v2
    have lx : 0 ≤ v2 → v2 < 8 → (wq σ v2 0 = 0 ∨ wq σ v2 0 = 1) := fun a b => WF_ex l1 a b
    refine ra_load rfl rfl rfl rfl ?_
    refine ra_bipush rfl (by decide) ?_
    refine ra_icge rfl rfl (by first | omega | (unfold ra_in at *; omega)) (by first | omega | (unfold ra_in at *; omega)) (fun h1 => ?_) (fun h1 => ?_)
    · refine ra_load rfl rfl rfl rfl ?_
      exact ra_ireturn rfl rfl ⟨⟨_, (by first | omega | (unfold ra_in at *; omega)), (by omega), rfl⟩, rfl⟩
    · refine ra_load rfl rfl rfl rfl ?_
      refine ra_load rfl rfl rfl rfl ?_
      refine ra_load rfl rfl rfl rfl ?_
      refine ra_iconst rfl ?_
      refine ra_cTp (sp_199 (by first | omega | (unfold ra_in at *; omega)) (by first | omega | (unfold ra_in at *; omega)) (by first | assumption | rfl | omega)) rfl (ct_199 rfl lk_8_67 (Or.inl rfl) sh_179 (Nat.le_of_ble_eq_true rfl)) ?_
      have hr3 : ra_in (wq σ v2 (0)) := (ra_in_wq _ _ _)
      refine ra_iadd rfl ?_
      refine ra_store (L' := [_, _, _]) rfl rfl rfl (Nat.le_of_ble_eq_true rfl) rfl ?_
      refine ra_iinc (L' := [_, _, _]) rfl rfl (Nat.le_of_ble_eq_true rfl) rfl ?_
      refine ra_goto rfl rfl ?_
      exact ra_weak (by repeat' constructor) (ih (v1 + (wq σ v2 (0))) (v2 + 1) (by first | omega | (unfold ra_in at *; omega)) (by first | omega | (unfold ra_in at *; omega)) (by first | omega | (unfold ra_in at *; omega)) (by first | omega | (unfold ra_in at *; omega)))
theorem s4_202 {n : Nat} {f : Nat → Int32} {d : Nat}  {σ : ra_V} (hld : LD σ) : ra_C (g_Gs n f) g_sh 0 (d + 2) 202 [.index (179)] σ (fun r9 s => (∃ z, ra_in z ∧ (z = ra_g σ 180 5) ∧ r9 = .inl (some (ra_I z))) ∧ s = σ) := by
  refine ra_enter (nn := 2) mt_202 rfl (Nat.le_of_ble_eq_true rfl) rfl (fun h => absurd h (by decide +kernel)) ?_
  have hld0 := hld
  obtain ⟨l1, l2, l3, l4⟩ := hld0
  refine ra_iconst rfl ?_
  refine ra_store (L' := [_, _, _]) rfl rfl rfl (Nat.le_of_ble_eq_true rfl) rfl ?_
  refine ra_iconst rfl ?_
  refine ra_store (L' := [_, _, _]) rfl rfl rfl (Nat.le_of_ble_eq_true rfl) rfl ?_
  exact ra_weak (by repeat' constructor) (l4_202_4 hld _ (0) (0) (by first | omega | (unfold ra_in at *; omega)) (by first | omega | (unfold ra_in at *; omega)) (by first | omega | (unfold ra_in at *; omega)) (Nat.lt_succ_self _))
theorem l4_195_2 {n : Nat} {f : Nat → Int32} {d : Nat} {x0 : Int} {σ : ra_V} (hx0 : ra_in x0) (hb : 64 ≤ x0 ∧ x0 ≤ 600) : ∀ (nn : Nat) (v2 : Int) (s : ra_V) (hv2_0 : 0 ≤ v2) (hv2_1 : v2 ≤ 688) (hF : Fr (180) (181) σ s) (hc : ∀ a : Nat, (a : Int) < v2 → ra_g s 180 a = 0) (hm : ((688 - v2 : Int)).toNat < nn), ra_P (g_Gs n f) g_sh 0 (d + 0) g_m_X8_clear 2 [some (.index (179)), some (ra_I x0), some (ra_I v2)] [] s (fun r9 s => rV r9 ∧ Fr (180) (181) σ s ∧ WF s ∧ (∀ a, a < 88 → a ≠ 0 → a ≠ 3 → a ≠ 4 → a ≠ 16 → ra_g s 180 a = 0) ∧ ra_g s 180 3 = 1 ∧ ra_g s 180 4 = 4) := by
  intro nn
  induction nn with
  | zero => intro v2 s hv2_0 hv2_1 hF hc hm; exact absurd hm (Nat.not_lt_zero _)
  | succ nn ih =>
    intro v2 s hv2_0 hv2_1 hF hc hm
    refine ra_load rfl rfl rfl rfl ?_
    refine ra_sipush rfl (by decide) ?_
    refine ra_icge rfl rfl (by first | omega | (unfold ra_in at *; omega)) (by first | omega | (unfold ra_in at *; omega)) (fun h1 => ?_) (fun h1 => ?_)
    · refine ra_load rfl rfl rfl rfl ?_
      refine ra_getR rfl lk_8_7 (Nat.zero_le _) sh_179 rfl ?_
      refine ra_iconst rfl ?_
      refine ra_load rfl rfl rfl rfl ?_
      refine ra_iastoreJ (j := 0) rfl sh_180 rfl (by decide) rfl (by decide) ?_
      refine ra_newR hx0 (fun s2 hs2 hs2v hs2o => ?_)
      have hF3 := Fr_tr (lo := 180) (hi := 181) hF hs2 (by omega)
      refine ra_load rfl rfl rfl rfl ?_
      refine ra_getR rfl lk_8_7 (Nat.zero_le _) sh_179 rfl ?_
      refine ra_iconst rfl ?_
      refine ra_iconst rfl ?_
      refine ra_iastoreJ (j := 3) rfl sh_180 rfl (by decide) rfl (by decide) ?_
      refine ra_newR (by first | omega | (unfold ra_in at *; omega)) (fun s4 hs4 hs4v hs4o => ?_)
      have hF5 := Fr_tr (lo := 180) (hi := 181) hF3 hs4 (by omega)
      refine ra_load rfl rfl rfl rfl ?_
      refine ra_getR rfl lk_8_7 (Nat.zero_le _) sh_179 rfl ?_
      refine ra_iconst rfl ?_
      refine ra_iconst rfl ?_
      refine ra_iastoreJ (j := 4) rfl sh_180 rfl (by decide) rfl (by decide) ?_
      refine ra_newR (by first | omega | (unfold ra_in at *; omega)) (fun s6 hs6 hs6v hs6o => ?_)
      have hF7 := Fr_tr (lo := 180) (hi := 181) hF5 hs6 (by omega)
      refine ra_load rfl rfl rfl rfl ?_
      refine ra_getR rfl lk_8_7 (Nat.zero_le _) sh_179 rfl ?_
      refine ra_bipush rfl (by decide) ?_
      refine ra_iconst rfl ?_
      refine ra_iastoreJ (j := 16) rfl sh_180 rfl (by decide) rfl (by decide) ?_
      refine ra_newR (by first | omega | (unfold ra_in at *; omega)) (fun s8 hs8 hs8v hs8o => ?_)
      have hF9 := Fr_tr (lo := 180) (hi := 181) hF7 hs8 (by omega)
      exact ra_return rfl rfl ⟨rfl, ⟨hF9, wf_clear hb ((((hs8o 0 (by decide)).trans (hs6o 0 (by decide))).trans (hs4o 0 (by decide))).trans hs2v) (((hs8o 3 (by decide)).trans (hs6o 3 (by decide))).trans hs4v) ((hs8o 4 (by decide)).trans hs6v) hs8v (fun a h1 h2 h3 h4 h5 => (hs8o a h5).trans ((hs6o a h4).trans ((hs4o a h3).trans ((hs2o a h2).trans (hc a (by omega)))))), (fun a h1 h2 h3 h4 h5 => (hs8o a h5).trans ((hs6o a h4).trans ((hs4o a h3).trans ((hs2o a h2).trans (hc a (by omega)))))), (hs8o 3 (by decide)).trans ((hs6o 3 (by decide)).trans hs4v), (hs8o 4 (by decide)).trans hs6v⟩⟩
    · refine ra_load rfl rfl rfl rfl ?_
      refine ra_getR rfl lk_8_7 (Nat.zero_le _) sh_179 rfl ?_
      refine ra_load rfl rfl rfl rfl ?_
      refine ra_iconst rfl ?_
      refine ra_iastore rfl sh_180 rfl (by decide) (by first | omega | (unfold ra_in at *; omega)) (by first | omega | (unfold ra_in at *; omega)) ?_
      refine ra_newR (by first | omega | (unfold ra_in at *; omega)) (fun s10 hs10 hs10v hs10o => ?_)
      have hF11 := Fr_tr (lo := 180) (hi := 181) hF hs10 (by omega)
      refine ra_iinc (L' := [_, _, _]) rfl rfl (Nat.le_of_ble_eq_true rfl) rfl ?_
      refine ra_goto rfl rfl ?_
      exact ra_weak (by repeat' constructor) (ih (v2 + 1) s10 (by first | omega | (unfold ra_in at *; omega)) (by first | omega | (unfold ra_in at *; omega)) hF11 (fun a h => if e : a = v2.toNat then (by rw [e]; exact hs10v) else (hs10o a e).trans (hc a (by omega))) (by first | omega | (unfold ra_in at *; omega)))
theorem s4_195 {n : Nat} {f : Nat → Int32} {d : Nat} {x0 : Int} {σ : ra_V} (hx0 : ra_in x0) (hb : 64 ≤ x0 ∧ x0 ≤ 600) : ra_C (g_Gs n f) g_sh 0 (d + 1) 195 [.index (179), ra_I x0] σ (fun r9 s => rV r9 ∧ Fr (180) (181) σ s ∧ WF s ∧ (∀ a, a < 88 → a ≠ 0 → a ≠ 3 → a ≠ 4 → a ≠ 16 → ra_g s 180 a = 0) ∧ ra_g s 180 3 = 1 ∧ ra_g s 180 4 = 4) := by
  refine ra_enter (nn := 1) mt_195 rfl (Nat.le_of_ble_eq_true rfl) rfl (fun h => absurd h (by decide +kernel)) ?_
  refine ra_iconst rfl ?_
  refine ra_store (L' := [_, _, _]) rfl rfl rfl (Nat.le_of_ble_eq_true rfl) rfl ?_
  exact ra_weak (by repeat' constructor) (l4_195_2 hx0 hb _ (0) σ (by first | omega | (unfold ra_in at *; omega)) (by first | omega | (unfold ra_in at *; omega)) Fr_rf (fun a h => by omega) (Nat.lt_succ_self _))
theorem s4_261 {n : Nat} {f : Nat → Int32} {d : Nat}  {σ : ra_V} (hw : WF σ) (hpw : PW σ) (hn0 : 0 ≤ ra_g σ 179 12 ∧ ra_g σ 179 12 ≤ 500) (hB : x4TR σ B bn) : ra_C (g_Gs n f) g_sh 0 (d + 9) 261 [.index (179)] σ (fun r9 s => r9 = .inl (some (ra_I (tx_ans (tx_text B bn)))) ∧ Fr (179) (189) σ s ∧ s (183) = σ (183) ∧ (∀ a, a ≠ 5 → a ≠ 6 → a ≠ 7 → a ≠ 12 → a ≠ 13 → a ≠ 14 → a ≠ 15 → a ≠ 16 → a ≠ 17 → a ≠ 18 → a ≠ 19 → a ≠ 20 → a ≠ 21 → ra_g s 179 a = ra_g σ 179 a) ∧ ra_g s 179 12 = 0 ∧ (ra_g s 179 6 ≠ 0 → ra_g σ 179 6 ≠ 0) ∧ WF s ∧ PW s ∧ ra_g s 179 13 = tx_err (tx_text B bn) ∧ ra_g s 179 14 = tx_off (tx_text B bn)) := by
  refine ra_enter (nn := 1) mt_261 rfl (Nat.le_of_ble_eq_true rfl) rfl (fun h => absurd h (by decide +kernel)) ?_
  refine ra_load rfl rfl rfl rfl ?_
  refine ra_iconst rfl ?_
  refine ra_putI rfl lk_8_51 (Nat.zero_le _) sh_179 rfl rfl ?_
  refine ra_newU (by first | omega | (unfold ra_in at *; omega)) (fun s1 hs1 hp2 hp2o => ?_)
  have hp2_12 := hp2o 12 (by decide)
  have hp2_17 := hp2o 17 (by decide)
  have hF3 := Fr_tr (lo := 179) (hi := 189) Fr_rf hs1 (by omega)
  have hk4 : s1 (183) = σ (183) := (hs1 (183) (by omega))
  have hk5 : s1 (184) = σ (184) := (hs1 (184) (by omega))
  have hk6 : s1 (187) = σ (187) := (hs1 (187) (by omega))
  refine ra_load rfl rfl rfl rfl ?_
  refine ra_getR rfl lk_8_7 (Nat.zero_le _) sh_179 rfl ?_
  refine ra_iconst rfl ?_
  refine ra_load rfl rfl rfl rfl ?_
  refine ra_getR rfl lk_8_13 (Nat.zero_le _) sh_179 rfl ?_
  refine ra_iconst rfl ?_
  refine ra_sipush rfl (by decide) ?_
  refine ra_cV (sp_194 sh_180 (by decide) (by first | omega | (unfold ra_in at *; omega)) sh_181 (by decide) (by first | omega | (unfold ra_in at *; omega)) (by first | omega | (unfold ra_in at *; omega)) (by first | assumption | rfl | omega) (by first | assumption | rfl | omega)) rfl (ct_194 rfl lk_8_57 (Or.inl rfl) (Nat.le_of_ble_eq_true rfl)) (fun s7 hs7 => ?_)
  obtain ⟨hf8, he9⟩ := hs7
  have hF10 := Fr_tr (lo := 179) (hi := 189) hF3 hf8 (by omega)
  have hk11 : s7 (183) = σ (183) := (hf8 (183) (by omega)).trans hk4
  have hk12 : s7 (184) = σ (184) := (hf8 (184) (by omega)).trans hk5
  have hk13 : s7 (187) = σ (187) := (hf8 (187) (by omega)).trans hk6
  have hk14 : s7 (179) = s1 (179) := (hf8 (179) (by omega))
  refine ra_load rfl rfl rfl rfl ?_
  refine ra_bipush rfl (by decide) ?_
  refine ra_cV (s4_195 (by first | omega | (unfold ra_in at *; omega)) (by first | assumption | rfl | omega)) rfl (ct_195 rfl lk_8_47 (Or.inl rfl) sh_179 (Nat.le_of_ble_eq_true rfl)) (fun s15 hs15 => ?_)
  obtain ⟨hf16, he17, he18, he19, he20⟩ := hs15
  have hF21 := Fr_tr (lo := 179) (hi := 189) hF10 hf16 (by omega)
  have hk22 : s15 (183) = σ (183) := (hf16 (183) (by omega)).trans hk11
  have hk23 : s15 (184) = σ (184) := (hf16 (184) (by omega)).trans hk12
  have hk24 : s15 (187) = σ (187) := (hf16 (187) (by omega)).trans hk13
  have hk25 : s15 (179) = s1 (179) := (hf16 (179) (by omega)).trans hk14
  have hl0 := LD_0 he17 he18
  have hl0b := hl0.2
  refine ra_load rfl rfl rfl rfl ?_
  refine ra_iconst rfl ?_
  refine ra_putI rfl lk_8_215 (Nat.zero_le _) sh_179 rfl rfl ?_
  refine ra_newU (by first | omega | (unfold ra_in at *; omega)) (fun s26 hs26 hp27 hp27o => ?_)
  have hp27_12 := hp27o 12 (by decide)
  rw [ra_gk hk25] at hp27_12
  have hp27_17 := hp27o 17 (by decide)
  rw [ra_gk hk25] at hp27_17
  have hF28 := Fr_tr (lo := 179) (hi := 189) hF21 hs26 (by omega)
  have hk29 : s26 (183) = σ (183) := (hs26 (183) (by omega)).trans hk22
  have hk30 : s26 (184) = σ (184) := (hs26 (184) (by omega)).trans hk23
  have hk31 : s26 (187) = σ (187) := (hs26 (187) (by omega)).trans hk24
  refine ra_load rfl rfl rfl rfl ?_
  refine ra_iconst rfl ?_
  refine ra_putI rfl lk_8_218 (Nat.zero_le _) sh_179 rfl rfl ?_
  refine ra_newU (by first | omega | (unfold ra_in at *; omega)) (fun s32 hs32 hp33 hp33o => ?_)
  have hp33_12 := hp33o 12 (by decide)
  have hp33_17 := hp33o 17 (by decide)
  have hF34 := Fr_tr (lo := 179) (hi := 189) hF28 hs32 (by omega)
  have hk35 : s32 (183) = σ (183) := (hs32 (183) (by omega)).trans hk29
  have hk36 : s32 (184) = σ (184) := (hs32 (184) (by omega)).trans hk30
  have hk37 : s32 (187) = σ (187) := (hs32 (187) (by omega)).trans hk31
  refine ra_load rfl rfl rfl rfl ?_
  refine ra_iconst rfl ?_
  refine ra_putI rfl lk_8_192 (Nat.zero_le _) sh_179 rfl rfl ?_
  refine ra_newU (by first | omega | (unfold ra_in at *; omega)) (fun s38 hs38 hp39 hp39o => ?_)
  have hp39_12 := hp39o 12 (by decide)
  have hF40 := Fr_tr (lo := 179) (hi := 189) hF34 hs38 (by omega)
  have hk41 : s38 (183) = σ (183) := (hs38 (183) (by omega)).trans hk35
  have hk42 : s38 (184) = σ (184) := (hs38 (184) (by omega)).trans hk36
  have hk43 : s38 (187) = σ (187) := (hs38 (187) (by omega)).trans hk37
  refine ra_load rfl rfl rfl rfl ?_
  refine ra_iconst rfl ?_
  refine ra_putI rfl lk_8_243 (Nat.zero_le _) sh_179 rfl rfl ?_
  refine ra_newU (by first | omega | (unfold ra_in at *; omega)) (fun s44 hs44 hp45 hp45o => ?_)
  have hp45_12 := hp45o 12 (by decide)
  have hp45_17 := hp45o 17 (by decide)
  have hF46 := Fr_tr (lo := 179) (hi := 189) hF40 hs44 (by omega)
  have hk47 : s44 (183) = σ (183) := (hs44 (183) (by omega)).trans hk41
  have hk48 : s44 (184) = σ (184) := (hs44 (184) (by omega)).trans hk42
  have hk49 : s44 (187) = σ (187) := (hs44 (187) (by omega)).trans hk43
  have q12 : ra_g s44 179 12 = ra_g σ 179 12 := ((hp45o 12 (by decide)).trans ((hp39o 12 (by decide)).trans ((hp33o 12 (by decide)).trans ((hp27o 12 (by decide)).trans ((ra_gk (hf16 179 (by omega))).trans ((ra_gk (hf8 179 (by omega))).trans (hp2o 12 (by decide))))))))
  have q17 : ra_g s44 179 17 = 0 := by omega
  refine ra_load rfl rfl rfl rfl ?_
  refine ra_cV (s4_249 (by omega) (x4TR_k ((hp45o 12 (by decide)).trans ((hp39o 12 (by decide)).trans ((hp33o 12 (by decide)).trans ((hp27o 12 (by decide)).trans ((ra_gk (hf16 179 (by omega))).trans ((ra_gk (hf8 179 (by omega))).trans (hp2o 12 (by decide)))))))) ((hs44 (187) (by omega)).trans ((hs38 (187) (by omega)).trans ((hs32 (187) (by omega)).trans ((hs26 (187) (by omega)).trans ((hf16 (187) (by omega)).trans ((hf8 (187) (by omega)).trans (hs1 (187) (by omega)))))))) hB) (show ra_g s44 179 17 = ((0 : Nat) : Int) by omega) (Nat.zero_le _)) rfl (ct_249 rfl lk_8_240 (Or.inl rfl) sh_179 (Nat.le_of_ble_eq_true rfl)) (fun s50 hs50 => ?_)
  obtain ⟨hf51, he52, he53, he54, he55⟩ := hs50
  have hF56 := Fr_tr (lo := 179) (hi := 189) hF46 hf51 (by omega)
  have hk57 : s50 (183) = σ (183) := (hf51 (183) (by omega)).trans hk47
  have hk58 : s50 (184) = σ (184) := (hf51 (184) (by omega)).trans hk48
  have hk59 : s50 (187) = σ (187) := (hf51 (187) (by omega)).trans hk49
  refine ra_load rfl rfl rfl rfl ?_
  refine ra_cQPs (s4_260 he53 (LD_k ((hf51 180 (by omega)).trans ((hs44 180 (by omega)).trans ((hs38 180 (by omega)).trans ((hs32 180 (by omega)).trans (hs26 180 (by omega)))))) hl0.1) ((ra_gk ((hf51 180 (by omega)).trans ((hs44 180 (by omega)).trans ((hs38 180 (by omega)).trans ((hs32 180 (by omega)).trans (hs26 180 (by omega))))))).trans hl0b) (x4TR_k ((he52 12 (by decide) (by decide) (by decide) (by decide)).trans ((hp45o 12 (by decide)).trans ((hp39o 12 (by decide)).trans ((hp33o 12 (by decide)).trans ((hp27o 12 (by decide)).trans ((ra_gk (hf16 179 (by omega))).trans ((ra_gk (hf8 179 (by omega))).trans (hp2o 12 (by decide))))))))) ((hf51 (187) (by omega)).trans ((hs44 (187) (by omega)).trans ((hs38 (187) (by omega)).trans ((hs32 (187) (by omega)).trans ((hs26 (187) (by omega)).trans ((hf16 (187) (by omega)).trans ((hf8 (187) (by omega)).trans (hs1 (187) (by omega))))))))) hB) he55 ⟨((ra_gk ((hf51 (180) (by omega)).trans ((hs44 (180) (by omega)).trans ((hs38 (180) (by omega)).trans ((hs32 (180) (by omega)).trans (hs26 (180) (by omega))))))).trans (he18 1 (by decide) (by decide) (by decide) (by decide) (by decide))), ((ra_gk ((hf51 (180) (by omega)).trans ((hs44 (180) (by omega)).trans ((hs38 (180) (by omega)).trans ((hs32 (180) (by omega)).trans (hs26 (180) (by omega))))))).trans (he18 2 (by decide) (by decide) (by decide) (by decide) (by decide))), ((ra_gk ((hf51 (180) (by omega)).trans ((hs44 (180) (by omega)).trans ((hs38 (180) (by omega)).trans ((hs32 (180) (by omega)).trans (hs26 (180) (by omega))))))).trans he19), ((ra_gk ((hf51 (180) (by omega)).trans ((hs44 (180) (by omega)).trans ((hs38 (180) (by omega)).trans ((hs32 (180) (by omega)).trans (hs26 (180) (by omega))))))).trans he20), ((ra_gk ((hf51 (180) (by omega)).trans ((hs44 (180) (by omega)).trans ((hs38 (180) (by omega)).trans ((hs32 (180) (by omega)).trans (hs26 (180) (by omega))))))).trans (he18 5 (by decide) (by decide) (by decide) (by decide) (by decide)))⟩ ⟨(((he52 15 (by decide) (by decide) (by decide) (by decide)).trans ((hp45o 15 (by decide)).trans ((hp39o 15 (by decide)).trans (hp33o 15 (by decide))))).trans hp27), (((he52 16 (by decide) (by decide) (by decide) (by decide)).trans ((hp45o 16 (by decide)).trans (hp39o 16 (by decide)))).trans hp33), ((he52 21 (by decide) (by decide) (by decide) (by decide)).trans hp45)⟩) rfl (ct_260 rfl lk_8_288 (Or.inl rfl) sh_179 (Nat.le_of_ble_eq_true rfl)) (fun z61 s60 hz61 hz61p hs60 => ?_)
  obtain ⟨hf62, hc63, hc64, hc65, hc66, he67, he68, he69, he70, he71⟩ := hs60
  have hF72 := Fr_tr (lo := 179) (hi := 189) hF56 hf62 (by omega)
  have hk73 : s60 (183) = σ (183) := hc65.trans hk57
  have hk74 : s60 (184) = σ (184) := hc66.trans hk58
  refine ra_store (L' := [_, _]) rfl rfl rfl (Nat.le_of_ble_eq_true rfl) rfl ?_
  refine ra_load rfl rfl rfl rfl ?_
  refine ra_iconst rfl ?_
  refine ra_putI rfl lk_8_186 (Nat.zero_le _) sh_179 rfl rfl ?_
  refine ra_newU (by first | omega | (unfold ra_in at *; omega)) (fun s75 hs75 hp76 hp76o => ?_)
  have hp76_17 := hp76o 17 (by decide)
  have hF77 := Fr_tr (lo := 179) (hi := 189) hF72 hs75 (by omega)
  have hk78 : s75 (183) = σ (183) := (hs75 (183) (by omega)).trans hk73
  have hk79 : s75 (184) = σ (184) := (hs75 (184) (by omega)).trans hk74
  refine ra_load rfl rfl rfl rfl ?_
  refine ra_load rfl rfl rfl rfl ?_
  refine ra_getI rfl lk_8_215 (Nat.zero_le _) sh_179 rfl ?_
  have hr80 : ra_in (ra_g s75 (179) 15) := (ra_in_g _ _ _)
  refine ra_putI rfl lk_8_291 (Nat.zero_le _) sh_179 rfl rfl ?_
  refine ra_newU hr80 (fun s81 hs81 hp82 hp82o => ?_)
  have hp82_12 := hp82o 12 (by decide)
  have hp82_17 := hp82o 17 (by decide)
  have hF83 := Fr_tr (lo := 179) (hi := 189) hF77 hs81 (by omega)
  have hk84 : s81 (183) = σ (183) := (hs81 (183) (by omega)).trans hk78
  have hk85 : s81 (184) = σ (184) := (hs81 (184) (by omega)).trans hk79
  refine ra_load rfl rfl rfl rfl ?_
  refine ra_load rfl rfl rfl rfl ?_
  refine ra_getI rfl lk_8_218 (Nat.zero_le _) sh_179 rfl ?_
  have hr86 : ra_in (ra_g s81 (179) 16) := (ra_in_g _ _ _)
  refine ra_putI rfl lk_8_34 (Nat.zero_le _) sh_179 rfl rfl ?_
  refine ra_newU hr86 (fun s87 hs87 hp88 hp88o => ?_)
  have hp88_12 := hp88o 12 (by decide)
  have hp88_17 := hp88o 17 (by decide)
  have hF89 := Fr_tr (lo := 179) (hi := 189) hF83 hs87 (by omega)
  have hk90 : s87 (183) = σ (183) := (hs87 (183) (by omega)).trans hk84
  have hk91 : s87 (184) = σ (184) := (hs87 (184) (by omega)).trans hk85
  refine ra_load rfl rfl rfl rfl ?_
  refine ra_ifne rfl rfl (ra_in01 hz61) (fun h92 => ?_) (fun h92 => ?_)
  · refine ra_load rfl rfl rfl rfl ?_
    refine ra_iconst rfl ?_
    refine ra_putI rfl lk_8_54 (Nat.zero_le _) sh_179 rfl rfl ?_
    refine ra_newU (by first | omega | (unfold ra_in at *; omega)) (fun s93 hs93 hp94 hp94o => ?_)
    have hp94_12 := hp94o 12 (by decide)
    have hp94_17 := hp94o 17 (by decide)
    have hF95 := Fr_tr (lo := 179) (hi := 189) hF89 hs93 (by omega)
    have hk96 : s93 (183) = σ (183) := (hs93 (183) (by omega)).trans hk90
    have hk97 : s93 (184) = σ (184) := (hs93 (184) (by omega)).trans hk91
    refine ra_load rfl rfl rfl rfl ?_
    refine ra_iconst rfl ?_
    refine ra_putB rfl lk_8_294 (Nat.zero_le _) sh_179 rfl rfl (Or.inl rfl) ?_
    refine ra_newU (ra_in01 (Or.inl rfl)) (fun s98 hs98 hp99 hp99o => ?_)
    have hp99_12 := hp99o 12 (by decide)
    have hp99_17 := hp99o 17 (by decide)
    have hF100 := Fr_tr (lo := 179) (hi := 189) hF95 hs98 (by omega)
    have hk101 : s98 (183) = σ (183) := (hs98 (183) (by omega)).trans hk96
    have hk102 : s98 (184) = σ (184) := (hs98 (184) (by omega)).trans hk97
    refine ra_load rfl rfl rfl rfl ?_
    refine ra_cIPp (s4_202 (LD_k ((hs98 (180) (by omega)).trans ((hs93 (180) (by omega)).trans ((hs87 (180) (by omega)).trans ((hs81 (180) (by omega)).trans (hs75 (180) (by omega)))))) he68)) rfl (ct_202 rfl lk_8_298 (Or.inl rfl) sh_179 (Nat.le_of_ble_eq_true rfl)) (fun z104 hz104 hz104p => ?_)
    exact ra_ireturn rfl rfl ⟨(congrArg (fun z => Sum.inl (some (ra_I z))) (x4rp_y hz61p (by omega) (hz104p.trans (ra_gk ((hs98 (180) (by omega)).trans ((hs93 (180) (by omega)).trans ((hs87 (180) (by omega)).trans ((hs81 (180) (by omega)).trans (hs75 (180) (by omega)))))))))), ⟨hF100, hk101, (fun a h5 h6 h7 h12 h13 h14 h15 h16 h17 h18 h19 h20 h21 => ((hp99o a (by assumption)).trans ((hp94o a (by assumption)).trans ((hp88o a (by assumption)).trans ((hp82o a (by assumption)).trans ((hp76o a (by assumption)).trans ((he67 a h15 h16 h17 h18 h19 h20 h21).trans ((he52 a h17 h18 h19 h20).trans ((hp45o a (by assumption)).trans ((hp39o a (by assumption)).trans ((hp33o a (by assumption)).trans ((hp27o a (by assumption)).trans ((ra_gk (hf16 179 (by omega))).trans ((ra_gk (hf8 179 (by omega))).trans (hp2o a (by assumption)))))))))))))))), (((hp99o 12 (by decide)).trans ((hp94o 12 (by decide)).trans ((hp88o 12 (by decide)).trans (hp82o 12 (by decide))))).trans hp76), (fun q => absurd hp99 q), (LD_k ((hs98 180 (by omega)).trans ((hs93 180 (by omega)).trans ((hs87 180 (by omega)).trans ((hs81 180 (by omega)).trans (hs75 180 (by omega)))))) he68).1, (pw_0 ((hp99o 5 (by decide)).trans hp94)), ((((hp99o 13 (by decide)).trans ((hp94o 13 (by decide)).trans (hp88o 13 (by decide))))).trans (hp82.trans (((hp76o 15 (by decide))).trans (x4rp_2 hz61p)))), ((((hp99o 14 (by decide)).trans (hp94o 14 (by decide)))).trans (hp88.trans ((((hp82o 16 (by decide)).trans (hp76o 16 (by decide)))).trans (x4rp_3 hz61p))))⟩⟩
  · refine ra_load rfl rfl rfl rfl ?_
    refine ra_getR rfl lk_8_13 (Nat.zero_le _) sh_179 rfl ?_
    refine ra_iconst rfl ?_
    refine ra_load rfl rfl rfl rfl ?_
    refine ra_getR rfl lk_8_7 (Nat.zero_le _) sh_179 rfl ?_
    refine ra_iconst rfl ?_
    refine ra_sipush rfl (by decide) ?_
    refine ra_cV (sp_194 sh_181 (by decide) (by first | omega | (unfold ra_in at *; omega)) sh_180 (by decide) (by first | omega | (unfold ra_in at *; omega)) (by first | omega | (unfold ra_in at *; omega)) (by first | assumption | rfl | omega) (by first | assumption | rfl | omega)) rfl (ct_194 rfl lk_8_57 (Or.inl rfl) (Nat.le_of_ble_eq_true rfl)) (fun s105 hs105 => ?_)
    obtain ⟨hf106, he107⟩ := hs105
    have hF108 := Fr_tr (lo := 179) (hi := 189) hF89 hf106 (by omega)
    have hk109 : s105 (183) = σ (183) := (hf106 (183) (by omega)).trans hk90
    have hk110 : s105 (184) = σ (184) := (hf106 (184) (by omega)).trans hk91
    have hk111 : s105 (179) = s87 (179) := (hf106 (179) (by omega))
    refine ra_iconst rfl ?_
    exact ra_ireturn rfl rfl ⟨(congrArg (fun z => Sum.inl (some (ra_I z))) (x4rp_m hz61p (by omega))), ⟨hF108, hk109, (fun a h5 h6 h7 h12 h13 h14 h15 h16 h17 h18 h19 h20 h21 => ((ra_gk (hf106 179 (by omega))).trans ((hp88o a (by assumption)).trans ((hp82o a (by assumption)).trans ((hp76o a (by assumption)).trans ((he67 a h15 h16 h17 h18 h19 h20 h21).trans ((he52 a h17 h18 h19 h20).trans ((hp45o a (by assumption)).trans ((hp39o a (by assumption)).trans ((hp33o a (by assumption)).trans ((hp27o a (by assumption)).trans ((ra_gk (hf16 179 (by omega))).trans ((ra_gk (hf8 179 (by omega))).trans (hp2o a (by assumption))))))))))))))), (((ra_gk (hf106 179 (by omega))).trans ((hp88o 12 (by decide)).trans (hp82o 12 (by decide)))).trans hp76), (fun q => by have e := ((ra_gk (hf106 179 (by omega))).trans ((hp88o 6 (by decide)).trans ((hp82o 6 (by decide)).trans ((hp76o 6 (by decide)).trans ((he67 6 (by decide) (by decide) (by decide) (by decide) (by decide) (by decide) (by decide)).trans ((he52 6 (by decide) (by decide) (by decide) (by decide)).trans ((hp45o 6 (by decide)).trans ((hp39o 6 (by decide)).trans ((hp33o 6 (by decide)).trans ((hp27o 6 (by decide)).trans ((ra_gk (hf16 179 (by omega))).trans ((ra_gk (hf8 179 (by omega))).trans (hp2o 6 (by decide)))))))))))))); omega), (kp_w hw (hs1 180 (by omega)) he9 ((hs87 181 (by omega)).trans ((hs81 181 (by omega)).trans ((hs75 181 (by omega)).trans (hc63.trans ((hf51 181 (by omega)).trans ((hs44 181 (by omega)).trans ((hs38 181 (by omega)).trans ((hs32 181 (by omega)).trans ((hs26 181 (by omega)).trans (hf16 181 (by omega))))))))))) he107), (PW_k hpw ((ra_gk (hf106 179 (by omega))).trans ((hp88o 5 (by decide)).trans ((hp82o 5 (by decide)).trans ((hp76o 5 (by decide)).trans ((he67 5 (by decide) (by decide) (by decide) (by decide) (by decide) (by decide) (by decide)).trans ((he52 5 (by decide) (by decide) (by decide) (by decide)).trans ((hp45o 5 (by decide)).trans ((hp39o 5 (by decide)).trans ((hp33o 5 (by decide)).trans ((hp27o 5 (by decide)).trans ((ra_gk (hf16 179 (by omega))).trans ((ra_gk (hf8 179 (by omega))).trans (hp2o 5 (by decide)))))))))))))) hk110), ((((ra_gk (hf106 179 (by omega))).trans (hp88o 13 (by decide)))).trans (hp82.trans (((hp76o 15 (by decide))).trans (x4rp_2 hz61p)))), (((ra_gk (hf106 179 (by omega)))).trans (hp88.trans ((((hp82o 16 (by decide)).trans (hp76o 16 (by decide)))).trans (x4rp_3 hz61p))))⟩⟩
end
