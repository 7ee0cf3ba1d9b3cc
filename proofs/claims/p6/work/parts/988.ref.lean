/-! the reference: what its methods do (printed by wip/gen/ref.py) -/
section RB
theorem lp_335_18 {n : Nat} {f : Nat → Int32} {d : Nat} {x0 : Int} {σ : ra_V} (hx0 : ra_in x0) (hi : 0 ≤ x0 ∧ x0 ≤ 999) (ho : 0 ≤ ra_g σ 179 25 ∧ ra_g σ 179 25 + 3 ≤ 150) : ∀ (nn : Nat) (v2 : Int) (s : ra_V) (hv2_0 : v2 = 0 ∨ v2 = 1 ∨ v2 = 10 ∨ v2 = 100) (hF : Fr (179) (191) σ s) (hk0 : s (180) = σ (180)) (hk1 : s (183) = σ (183)) (hk2 : s (184) = σ (184)) (hk3 : s (187) = σ (187)) (hov : ∀ a, a ≠ 25 → ra_g s 179 a = ra_g σ 179 a) (hnl : ra_g σ 179 25 ≤ ra_g s 179 25 ∧ (v2 = 0 → ra_g s 179 25 ≤ ra_g σ 179 25 + 3) ∧ (v2 = 1 → ra_g s 179 25 ≤ ra_g σ 179 25 + 2) ∧ (v2 = 10 → ra_g s 179 25 ≤ ra_g σ 179 25 + 1) ∧ (v2 = 100 → ra_g s 179 25 ≤ ra_g σ 179 25)) (hm : ((v2 : Int)).toNat < nn), ra_P (g_Gs n f) g_sh 0 (d + 1) g_m_X8_writeNumber 18 [some (.index (179)), some (ra_I x0), some (ra_I v2)] [] s (fun r s => rV r ∧ Fr (179) (191) σ s ∧ s (180) = σ (180) ∧ s (183) = σ (183) ∧ s (184) = σ (184) ∧ s (187) = σ (187) ∧ (∀ a, a ≠ 25 → ra_g s 179 a = ra_g σ 179 a) ∧ ra_g σ 179 25 ≤ ra_g s 179 25 ∧ ra_g s 179 25 ≤ ra_g σ 179 25 + 3) := by
  intro nn
  induction nn with
  | zero => intro v2 s hv2_0 hF hk0 hk1 hk2 hk3 hov hnl hm; exact absurd hm (Nat.not_lt_zero _)
  | succ nn ih =>
    intro v2 s hv2_0 hF hk0 hk1 hk2 hk3 hov hnl hm
    have hd := wn_d hv2_0
    refine ra_load rfl rfl rfl rfl ?_
    refine ra_ifle rfl rfl (by first | omega | (unfold ra_in at *; omega)) (fun h2 => ?_) (fun h2 => ?_)
    · exact ra_return rfl rfl ⟨rfl, ⟨hF, hk0, hk1, hk2, hk3, (fun a h => (hov a h)), by omega⟩⟩
    · refine ra_load rfl rfl rfl rfl ?_
      refine ra_bipush rfl (by decide) ?_
      refine ra_load rfl rfl rfl rfl ?_
      refine ra_load rfl rfl rfl rfl ?_
      refine ra_idiv rfl hx0 (by first | omega | (unfold ra_in at *; omega)) (by omega) ?_
      refine ra_bipush rfl (by decide) ?_
      refine ra_irem rfl (ra_in_tdiv hx0 (by omega)) (by first | omega | (unfold ra_in at *; omega)) (by omega) ?_
      refine ra_iadd rfl ?_
      refine ra_gen (fun z3 hz3 => ?_)
      refine ra_cV (sp_334 hz3 (by omega)) rfl (ct_334 rfl lk_8_430 (Or.inl rfl) sh_179 (Nat.le_of_ble_eq_true rfl)) (fun s4 hs4 => ?_)
      obtain ⟨hf5, hc6, hc7, hc8, hc9, he10, he11⟩ := hs4
      have hF12 := Fr_tr (lo := 179) (hi := 191) hF hf5 (by omega)
      have hk13 : s4 (180) = σ (180) := hc6.trans hk0
      have hk14 : s4 (183) = σ (183) := hc7.trans hk1
      have hk15 : s4 (184) = σ (184) := hc8.trans hk2
      have hk16 : s4 (187) = σ (187) := hc9.trans hk3
      refine ra_load rfl rfl rfl rfl ?_
      refine ra_bipush rfl (by decide) ?_
      refine ra_idiv rfl (by first | omega | (unfold ra_in at *; omega)) (by first | omega | (unfold ra_in at *; omega)) (by omega) ?_
      refine ra_store (L' := [_, _, _]) rfl rfl rfl (Nat.le_of_ble_eq_true rfl) rfl ?_
      refine ra_goto rfl rfl ?_
      exact ra_weak (by repeat' constructor) (ih (v2.tdiv (10)) s4 (by first | omega | (unfold ra_in at *; omega)) hF12 hk13 hk14 hk15 hk16 (fun a h => ((he10 a h).trans (hov a h))) (by omega) (by first | omega | (unfold ra_in at *; omega)))
theorem lp_335_2 {n : Nat} {f : Nat → Int32} {d : Nat} {x0 : Int} {σ : ra_V} (hx0 : ra_in x0) (hi : 0 ≤ x0 ∧ x0 ≤ 999) (ho : 0 ≤ ra_g σ 179 25 ∧ ra_g σ 179 25 + 3 ≤ 150) : ∀ (nn : Nat) (v2 : Int) (hv2_0 : v2 = 1 ∨ v2 = 10 ∨ v2 = 100) (hm : ((1000 - v2 : Int)).toNat < nn), ra_P (g_Gs n f) g_sh 0 (d + 1) g_m_X8_writeNumber 2 [some (.index (179)), some (ra_I x0), some (ra_I v2)] [] σ (fun r s => rV r ∧ Fr (179) (191) σ s ∧ s (180) = σ (180) ∧ s (183) = σ (183) ∧ s (184) = σ (184) ∧ s (187) = σ (187) ∧ (∀ a, a ≠ 25 → ra_g s 179 a = ra_g σ 179 a) ∧ ra_g σ 179 25 ≤ ra_g s 179 25 ∧ ra_g s 179 25 ≤ ra_g σ 179 25 + 3) := by
  intro nn
  induction nn with
  | zero => intro v2 hv2_0 hm; exact absurd hm (Nat.not_lt_zero _)
  | succ nn ih =>
    intro v2 hv2_0 hm
    refine ra_load rfl rfl rfl rfl ?_
    refine ra_load rfl rfl rfl rfl ?_
    refine ra_idiv rfl hx0 (by first | omega | (unfold ra_in at *; omega)) (by omega) ?_
    refine ra_bipush rfl (by decide) ?_
    refine ra_icle rfl rfl (ra_in_tdiv hx0 (by omega)) (by first | omega | (unfold ra_in at *; omega)) (fun h1 => ?_) (fun h1 => ?_)
    · exact ra_weak (by repeat' constructor) (lp_335_18 hx0 hi ho _ v2 σ (by first | omega | (unfold ra_in at *; omega)) Fr_rf rfl rfl rfl rfl (fun _ _ => rfl) (by omega) (Nat.lt_succ_self _))
    · have ht := wn_t hi.1 hv2_0 hi.2 (by omega)
      refine ra_load rfl rfl rfl rfl ?_
      refine ra_bipush rfl (by decide) ?_
      refine ra_imul rfl ?_
      refine ra_store (L' := [_, _, _]) rfl rfl rfl (Nat.le_of_ble_eq_true rfl) rfl ?_
      refine ra_goto rfl rfl ?_
      exact ra_weak (by repeat' constructor) (ih (v2 * (10)) (by first | omega | (unfold ra_in at *; omega)) (by first | omega | (unfold ra_in at *; omega)))
theorem sp_335 {n : Nat} {f : Nat → Int32} {d : Nat} {x0 : Int} {σ : ra_V} (hx0 : ra_in x0) (hi : 0 ≤ x0 ∧ x0 ≤ 999) (ho : 0 ≤ ra_g σ 179 25 ∧ ra_g σ 179 25 + 3 ≤ 150) : ra_C (g_Gs n f) g_sh 0 (d + 2) 335 [.index (179), ra_I x0] σ (fun r s => rV r ∧ Fr (179) (191) σ s ∧ s (180) = σ (180) ∧ s (183) = σ (183) ∧ s (184) = σ (184) ∧ s (187) = σ (187) ∧ (∀ a, a ≠ 25 → ra_g s 179 a = ra_g σ 179 a) ∧ ra_g σ 179 25 ≤ ra_g s 179 25 ∧ ra_g s 179 25 ≤ ra_g σ 179 25 + 3) := by
  refine ra_enter (nn := 1) mt_335 rfl (Nat.le_of_ble_eq_true rfl) rfl (fun h => absurd h (by decide +kernel)) ?_
  refine ra_iconst rfl ?_
  refine ra_store (L' := [_, _, _]) rfl rfl rfl (Nat.le_of_ble_eq_true rfl) rfl ?_
  exact ra_weak (by repeat' constructor) (lp_335_2 hx0 hi ho _ (1) (by first | omega | (unfold ra_in at *; omega)) (Nat.lt_succ_self _))
theorem sp_337 {n : Nat} {f : Nat → Int32} {d : Nat} {x0 : Int} {σ : ra_V} (hx0 : ra_in x0) (hw : WF σ) (hp : 0 ≤ x0 ∧ x0 < 8 ∧ wq σ x0 0 = 1) (ho : 0 ≤ ra_g σ 179 25 ∧ ra_g σ 179 25 + 14 ≤ 150) : ra_C (g_Gs n f) g_sh 0 (d + 3) 337 [.index (179), ra_I x0] σ (fun r s => rV r ∧ Fr (179) (191) σ s ∧ s (180) = σ (180) ∧ s (183) = σ (183) ∧ s (184) = σ (184) ∧ s (187) = σ (187) ∧ (∀ a, a ≠ 25 → ra_g s 179 a = ra_g σ 179 a) ∧ ra_g σ 179 25 ≤ ra_g s 179 25 ∧ ra_g s 179 25 ≤ ra_g σ 179 25 + 14) := by
  refine ra_enter (nn := 0) mt_337 rfl (Nat.le_of_ble_eq_true rfl) rfl (fun h => absurd h (by decide +kernel)) ?_
  have hw0 := WF_a hw
  unfold WFa at hw0
  have hq := WF_p hw hp.1 hp.2.1 hp.2.2
  refine ra_load rfl rfl rfl rfl ?_
  refine ra_load rfl rfl rfl rfl ?_
  refine ra_cV (sp_335 hx0 (by omega) (by omega)) rfl (ct_335 rfl lk_8_436 (Or.inl rfl) sh_179 (Nat.le_of_ble_eq_true rfl)) (fun s1 hs1 => ?_)
  obtain ⟨hf2, hc3, hc4, hc5, hc6, he7, he8⟩ := hs1
  have hF9 := Fr_tr (lo := 179) (hi := 191) Fr_rf hf2 (by omega)
  have hk10 : s1 (180) = σ (180) := hc3
  have hk11 : s1 (183) = σ (183) := hc4
  have hk12 : s1 (184) = σ (184) := hc5
  have hk13 : s1 (187) = σ (187) := hc6
  refine ra_load rfl rfl rfl rfl ?_
  refine ra_bipush rfl (by decide) ?_
  refine ra_cV (sp_334 (by first | omega | (unfold ra_in at *; omega)) (by omega)) rfl (ct_334 rfl lk_8_430 (Or.inl rfl) sh_179 (Nat.le_of_ble_eq_true rfl)) (fun s14 hs14 => ?_)
  obtain ⟨hf15, hc16, hc17, hc18, hc19, he20, he21⟩ := hs14
  have hF22 := Fr_tr (lo := 179) (hi := 191) hF9 hf15 (by omega)
  have hk23 : s14 (180) = σ (180) := hc16.trans hk10
  have hk24 : s14 (183) = σ (183) := hc17.trans hk11
  have hk25 : s14 (184) = σ (184) := hc18.trans hk12
  have hk26 : s14 (187) = σ (187) := hc19.trans hk13
  refine ra_load rfl rfl rfl rfl ?_
  refine ra_load rfl rfl rfl rfl ?_
  refine ra_load rfl rfl rfl rfl ?_
  refine ra_iconst rfl ?_
  refine ra_cTp (sp_199 hx0 (by first | omega | (unfold ra_in at *; omega)) (by first | assumption | rfl | omega)) rfl (ct_199 rfl lk_8_67 (Or.inl rfl) sh_179 (Nat.le_of_ble_eq_true rfl)) ?_
  rw [wq_k hk23]
  have hr28 : ra_in (wq σ x0 (1)) := (ra_in_wq _ _ _)
  refine ra_cV (sp_335 hr28 (by omega) (by omega)) rfl (ct_335 rfl lk_8_436 (Or.inl rfl) sh_179 (Nat.le_of_ble_eq_true rfl)) (fun s29 hs29 => ?_)
  obtain ⟨hf30, hc31, hc32, hc33, hc34, he35, he36⟩ := hs29
  have hF37 := Fr_tr (lo := 179) (hi := 191) hF22 hf30 (by omega)
  have hk38 : s29 (180) = σ (180) := hc31.trans hk23
  have hk39 : s29 (183) = σ (183) := hc32.trans hk24
  have hk40 : s29 (184) = σ (184) := hc33.trans hk25
  have hk41 : s29 (187) = σ (187) := hc34.trans hk26
  refine ra_load rfl rfl rfl rfl ?_
  refine ra_bipush rfl (by decide) ?_
  refine ra_cV (sp_334 (by first | omega | (unfold ra_in at *; omega)) (by omega)) rfl (ct_334 rfl lk_8_430 (Or.inl rfl) sh_179 (Nat.le_of_ble_eq_true rfl)) (fun s42 hs42 => ?_)
  obtain ⟨hf43, hc44, hc45, hc46, hc47, he48, he49⟩ := hs42
  have hF50 := Fr_tr (lo := 179) (hi := 191) hF37 hf43 (by omega)
  have hk51 : s42 (180) = σ (180) := hc44.trans hk38
  have hk52 : s42 (183) = σ (183) := hc45.trans hk39
  have hk53 : s42 (184) = σ (184) := hc46.trans hk40
  have hk54 : s42 (187) = σ (187) := hc47.trans hk41
  refine ra_load rfl rfl rfl rfl ?_
  refine ra_load rfl rfl rfl rfl ?_
  refine ra_load rfl rfl rfl rfl ?_
  refine ra_iconst rfl ?_
  refine ra_cTp (sp_199 hx0 (by first | omega | (unfold ra_in at *; omega)) (by first | assumption | rfl | omega)) rfl (ct_199 rfl lk_8_67 (Or.inl rfl) sh_179 (Nat.le_of_ble_eq_true rfl)) ?_
  rw [wq_k hk51]
  have hr56 : ra_in (wq σ x0 (2)) := (ra_in_wq _ _ _)
  refine ra_cV (sp_335 hr56 (by omega) (by omega)) rfl (ct_335 rfl lk_8_436 (Or.inl rfl) sh_179 (Nat.le_of_ble_eq_true rfl)) (fun s57 hs57 => ?_)
  obtain ⟨hf58, hc59, hc60, hc61, hc62, he63, he64⟩ := hs57
  have hF65 := Fr_tr (lo := 179) (hi := 191) hF50 hf58 (by omega)
  have hk66 : s57 (180) = σ (180) := hc59.trans hk51
  have hk67 : s57 (183) = σ (183) := hc60.trans hk52
  have hk68 : s57 (184) = σ (184) := hc61.trans hk53
  have hk69 : s57 (187) = σ (187) := hc62.trans hk54
  refine ra_load rfl rfl rfl rfl ?_
  refine ra_bipush rfl (by decide) ?_
  refine ra_cV (sp_334 (by first | omega | (unfold ra_in at *; omega)) (by omega)) rfl (ct_334 rfl lk_8_430 (Or.inl rfl) sh_179 (Nat.le_of_ble_eq_true rfl)) (fun s70 hs70 => ?_)
  obtain ⟨hf71, hc72, hc73, hc74, hc75, he76, he77⟩ := hs70
  have hF78 := Fr_tr (lo := 179) (hi := 191) hF65 hf71 (by omega)
  have hk79 : s70 (180) = σ (180) := hc72.trans hk66
  have hk80 : s70 (183) = σ (183) := hc73.trans hk67
  have hk81 : s70 (184) = σ (184) := hc74.trans hk68
  have hk82 : s70 (187) = σ (187) := hc75.trans hk69
  refine ra_load rfl rfl rfl rfl ?_
  refine ra_load rfl rfl rfl rfl ?_
  refine ra_iconst rfl ?_
  refine ra_cTp (sp_199 hx0 (by first | omega | (unfold ra_in at *; omega)) (by first | assumption | rfl | omega)) rfl (ct_199 rfl lk_8_67 (Or.inl rfl) sh_179 (Nat.le_of_ble_eq_true rfl)) ?_
  rw [wq_k hk79]
  have hr84 : ra_in (wq σ x0 (5)) := (ra_in_wq _ _ _)
  refine ra_iconst rfl ?_
  refine ra_icne rfl rfl hr84 (by first | omega | (unfold ra_in at *; omega)) (fun h85 => ?_) (fun h85 => ?_)
  · refine ra_load rfl rfl rfl rfl ?_
    refine ra_load rfl rfl rfl rfl ?_
    refine ra_cQPp (sp_204 hx0) rfl (ct_204 rfl lk_8_71 (Or.inl rfl) sh_179 (Nat.le_of_ble_eq_true rfl)) (fun z87 hz87 hz87p => ?_)
    refine ra_ifeq rfl rfl (ra_in01 hz87) (fun h88 => ?_) (fun h88 => ?_)
    · exact ra_return rfl rfl ⟨rfl, ⟨hF78, hk79, hk80, hk81, hk82, (fun a h => ((he76 a h).trans ((he63 a h).trans ((he48 a h).trans ((he35 a h).trans ((he20 a h).trans (he7 a h))))))), by omega⟩⟩
    · refine ra_load rfl rfl rfl rfl ?_
      refine ra_bipush rfl (by decide) ?_
      refine ra_cV (sp_334 (by first | omega | (unfold ra_in at *; omega)) (by omega)) rfl (ct_334 rfl lk_8_430 (Or.inl rfl) sh_179 (Nat.le_of_ble_eq_true rfl)) (fun s89 hs89 => ?_)
      obtain ⟨hf90, hc91, hc92, hc93, hc94, he95, he96⟩ := hs89
      have hF97 := Fr_tr (lo := 179) (hi := 191) hF78 hf90 (by omega)
      have hk98 : s89 (180) = σ (180) := hc91.trans hk79
      have hk99 : s89 (183) = σ (183) := hc92.trans hk80
      have hk100 : s89 (184) = σ (184) := hc93.trans hk81
      have hk101 : s89 (187) = σ (187) := hc94.trans hk82
      exact ra_return rfl rfl ⟨rfl, ⟨hF97, hk98, hk99, hk100, hk101, (fun a h => ((he95 a h).trans ((he76 a h).trans ((he63 a h).trans ((he48 a h).trans ((he35 a h).trans ((he20 a h).trans (he7 a h)))))))), by omega⟩⟩
  · refine ra_load rfl rfl rfl rfl ?_
    refine ra_bipush rfl (by decide) ?_
    refine ra_cV (sp_334 (by first | omega | (unfold ra_in at *; omega)) (by omega)) rfl (ct_334 rfl lk_8_430 (Or.inl rfl) sh_179 (Nat.le_of_ble_eq_true rfl)) (fun s102 hs102 => ?_)
    obtain ⟨hf103, hc104, hc105, hc106, hc107, he108, he109⟩ := hs102
    have hF110 := Fr_tr (lo := 179) (hi := 191) hF78 hf103 (by omega)
    have hk111 : s102 (180) = σ (180) := hc104.trans hk79
    have hk112 : s102 (183) = σ (183) := hc105.trans hk80
    have hk113 : s102 (184) = σ (184) := hc106.trans hk81
    have hk114 : s102 (187) = σ (187) := hc107.trans hk82
    refine ra_load rfl rfl rfl rfl ?_
    refine ra_load rfl rfl rfl rfl ?_
    refine ra_cQPp (sp_204 hx0) rfl (ct_204 rfl lk_8_71 (Or.inl rfl) sh_179 (Nat.le_of_ble_eq_true rfl)) (fun z116 hz116 hz116p => ?_)
    refine ra_ifeq rfl rfl (ra_in01 hz116) (fun h117 => ?_) (fun h117 => ?_)
    · exact ra_return rfl rfl ⟨rfl, ⟨hF110, hk111, hk112, hk113, hk114, (fun a h => ((he108 a h).trans ((he76 a h).trans ((he63 a h).trans ((he48 a h).trans ((he35 a h).trans ((he20 a h).trans (he7 a h)))))))), by omega⟩⟩
    · refine ra_load rfl rfl rfl rfl ?_
      refine ra_bipush rfl (by decide) ?_
      refine ra_cV (sp_334 (by first | omega | (unfold ra_in at *; omega)) (by omega)) rfl (ct_334 rfl lk_8_430 (Or.inl rfl) sh_179 (Nat.le_of_ble_eq_true rfl)) (fun s118 hs118 => ?_)
      obtain ⟨hf119, hc120, hc121, hc122, hc123, he124, he125⟩ := hs118
      have hF126 := Fr_tr (lo := 179) (hi := 191) hF110 hf119 (by omega)
      have hk127 : s118 (180) = σ (180) := hc120.trans hk111
      have hk128 : s118 (183) = σ (183) := hc121.trans hk112
      have hk129 : s118 (184) = σ (184) := hc122.trans hk113
      have hk130 : s118 (187) = σ (187) := hc123.trans hk114
      exact ra_return rfl rfl ⟨rfl, ⟨hF126, hk127, hk128, hk129, hk130, (fun a h => ((he124 a h).trans ((he108 a h).trans ((he76 a h).trans ((he63 a h).trans ((he48 a h).trans ((he35 a h).trans ((he20 a h).trans (he7 a h))))))))), by omega⟩⟩
theorem lp_336_16 {n : Nat} {f : Nat → Int32} {d : Nat}  {σ : ra_V} (hw : WF σ) : ∀ (nn : Nat) (v1 : Int) (s : ra_V) (hv1_0 : -1 ≤ v1 ∧ v1 < 8) (hv1_1 : v1 ≠ -1 → (0 ≤ v1 ∧ v1 < 8 ∧ wq σ v1 0 = 1)) (hF : Fr (179) (191) σ s) (hk0 : s (180) = σ (180)) (hk1 : s (183) = σ (183)) (hk2 : s (184) = σ (184)) (hk3 : s (187) = σ (187)) (hov : ∀ a, a ≠ 7 → a ≠ 25 → ra_g s 179 a = ra_g σ 179 a) (hnl : 0 ≤ ra_g s 179 25 ∧ ra_g s 179 25 + 15 * rst σ v1 ≤ 120) (hm : ((rst σ v1 : Int)).toNat < nn), ra_P (g_Gs n f) g_sh 0 (d + 3) g_m_X8_printDisk 16 [some (.index (179)), some (ra_I v1)] [] s (fun r s => rI r ∧ Fr (179) (191) σ s ∧ s (180) = σ (180) ∧ s (183) = σ (183) ∧ s (184) = σ (184) ∧ s (187) = σ (187) ∧ (∀ a, a ≠ 7 → a ≠ 25 → ra_g s 179 a = ra_g σ 179 a) ∧ 0 ≤ ra_g s 179 25 ∧ ra_g s 179 25 ≤ 150) := by
  intro nn
  induction nn with
  | zero => intro v1 s hv1_0 hv1_1 hF hk0 hk1 hk2 hk3 hov hnl hm; exact absurd hm (Nat.not_lt_zero _)
  | succ nn ih =>
    intro v1 s hv1_0 hv1_1 hF hk0 hk1 hk2 hk3 hov hnl hm
    have hrb := rst_b (σ := σ) (z := v1)
    have hry : v1 ≠ -1 → rst σ v1 = ct σ (wq σ v1 1) + 1 := fun q => rst_y q
    have hcb := (ct_b (σ := σ) (c := wq σ v1 1)).1
    refine ra_load rfl rfl rfl rfl ?_
    refine ra_iconst rfl ?_
    refine ra_iceq rfl rfl (by first | omega | (unfold ra_in at *; omega)) (by first | omega | (unfold ra_in at *; omega)) (fun h17 => ?_) (fun h17 => ?_)
    · refine ra_load rfl rfl rfl rfl ?_
      refine ra_getI rfl lk_8_427 (Nat.zero_le _) sh_179 rfl ?_
      have hr18 : ra_in (ra_g s (179) 25) := (ra_in_g _ _ _)
      exact ra_ireturn rfl rfl ⟨⟨_, hr18, rfl⟩, ⟨hF, hk0, hk1, hk2, hk3, hov, by have := rst_b (σ := σ) (z := v1); omega⟩⟩
    · refine ra_load rfl rfl rfl rfl ?_
      refine ra_getI rfl lk_8_427 (Nat.zero_le _) sh_179 rfl ?_
      have hr19 : ra_in (ra_g s (179) 25) := (ra_in_g _ _ _)
      refine ra_ifle rfl rfl hr19 (fun h20 => ?_) (fun h20 => ?_)
      · refine ra_load rfl rfl rfl rfl ?_
        refine ra_load rfl rfl rfl rfl ?_
        refine ra_cV (sp_337 (by first | omega | (unfold ra_in at *; omega)) (WF_k hk0 hw) (by have a := hv1_1 (by omega); first | exact ⟨a.1, a.2.1, (wq_k hk0).trans a.2.2⟩ | omega) (by omega)) rfl (ct_337 rfl lk_8_433 (Or.inl rfl) sh_179 (Nat.le_of_ble_eq_true rfl)) (fun s21 hs21 => ?_)
        obtain ⟨hf22, hc23, hc24, hc25, hc26, he27, he28⟩ := hs21
        have hF29 := Fr_tr (lo := 179) (hi := 191) hF hf22 (by omega)
        have hk30 : s21 (180) = σ (180) := hc23.trans hk0
        have hk31 : s21 (183) = σ (183) := hc24.trans hk1
        have hk32 : s21 (184) = σ (184) := hc25.trans hk2
        have hk33 : s21 (187) = σ (187) := hc26.trans hk3
        refine ra_load rfl rfl rfl rfl ?_
        refine ra_load rfl rfl rfl rfl ?_
        refine ra_load rfl rfl rfl rfl ?_
        refine ra_iconst rfl ?_
        refine ra_cTp (sp_199 (by first | omega | (unfold ra_in at *; omega)) (by first | omega | (unfold ra_in at *; omega)) (by have a := hv1_1 (by omega); first | exact ⟨a.1, a.2.1, (wq_k hk30).trans a.2.2⟩ | omega)) rfl (ct_199 rfl lk_8_67 (Or.inl rfl) sh_179 (Nat.le_of_ble_eq_true rfl)) ?_
        rw [wq_k hk30]
        have hr35 : ra_in (wq σ v1 (1)) := (ra_in_wq _ _ _)
        refine ra_cIPp (sp_277 hr35) rfl (ct_277 rfl lk_8_333 (Or.inl rfl) sh_179 (Nat.le_of_ble_eq_true rfl)) (fun z37 hz37 hz37p => ?_)
        have hrn := rst_n hw (nb_k0 hk30 hz37p)
        refine ra_store (L' := [_, _]) rfl rfl rfl (Nat.le_of_ble_eq_true rfl) rfl ?_
        refine ra_goto rfl rfl ?_
        exact ra_weak (by repeat' constructor) (ih z37 s21 (by have := (nb_k0 hk30 hz37p).1; omega) (fun q => by have := (nb_k0 hk30 hz37p).1.resolve_left q; exact ⟨this.1, this.2.1, this.2.2.1⟩) hF29 hk30 hk31 hk32 hk33 (fun a h7 h25 => ((he27 a h25).trans (hov a h7 h25))) (by have hr := rst_n hw (nb_k0 hk30 hz37p); omega) (by first | omega | (unfold ra_in at *; omega)))
      · refine ra_load rfl rfl rfl rfl ?_
        refine ra_bipush rfl (by decide) ?_
        refine ra_cV (sp_334 (by first | omega | (unfold ra_in at *; omega)) (by omega)) rfl (ct_334 rfl lk_8_430 (Or.inl rfl) sh_179 (Nat.le_of_ble_eq_true rfl)) (fun s38 hs38 => ?_)
        obtain ⟨hf39, hc40, hc41, hc42, hc43, he44, he45⟩ := hs38
        have hF46 := Fr_tr (lo := 179) (hi := 191) hF hf39 (by omega)
        have hk47 : s38 (180) = σ (180) := hc40.trans hk0
        have hk48 : s38 (183) = σ (183) := hc41.trans hk1
        have hk49 : s38 (184) = σ (184) := hc42.trans hk2
        have hk50 : s38 (187) = σ (187) := hc43.trans hk3
        refine ra_load rfl rfl rfl rfl ?_
        refine ra_load rfl rfl rfl rfl ?_
        refine ra_cV (sp_337 (by first | omega | (unfold ra_in at *; omega)) (WF_k hk47 hw) (by have a := hv1_1 (by omega); first | exact ⟨a.1, a.2.1, (wq_k hk47).trans a.2.2⟩ | omega) (by omega)) rfl (ct_337 rfl lk_8_433 (Or.inl rfl) sh_179 (Nat.le_of_ble_eq_true rfl)) (fun s51 hs51 => ?_)
        obtain ⟨hf52, hc53, hc54, hc55, hc56, he57, he58⟩ := hs51
        have hF59 := Fr_tr (lo := 179) (hi := 191) hF46 hf52 (by omega)
        have hk60 : s51 (180) = σ (180) := hc53.trans hk47
        have hk61 : s51 (183) = σ (183) := hc54.trans hk48
        have hk62 : s51 (184) = σ (184) := hc55.trans hk49
        have hk63 : s51 (187) = σ (187) := hc56.trans hk50
        refine ra_load rfl rfl rfl rfl ?_
        refine ra_load rfl rfl rfl rfl ?_
        refine ra_load rfl rfl rfl rfl ?_
        refine ra_iconst rfl ?_
        refine ra_cTp (sp_199 (by first | omega | (unfold ra_in at *; omega)) (by first | omega | (unfold ra_in at *; omega)) (by have a := hv1_1 (by omega); first | exact ⟨a.1, a.2.1, (wq_k hk60).trans a.2.2⟩ | omega)) rfl (ct_199 rfl lk_8_67 (Or.inl rfl) sh_179 (Nat.le_of_ble_eq_true rfl)) ?_
        rw [wq_k hk60]
        have hr65 : ra_in (wq σ v1 (1)) := (ra_in_wq _ _ _)
        refine ra_cIPp (sp_277 hr65) rfl (ct_277 rfl lk_8_333 (Or.inl rfl) sh_179 (Nat.le_of_ble_eq_true rfl)) (fun z67 hz67 hz67p => ?_)
        have hrn := rst_n hw (nb_k0 hk60 hz67p)
        refine ra_store (L' := [_, _]) rfl rfl rfl (Nat.le_of_ble_eq_true rfl) rfl ?_
        refine ra_goto rfl rfl ?_
        exact ra_weak (by repeat' constructor) (ih z67 s51 (by have := (nb_k0 hk60 hz67p).1; omega) (fun q => by have := (nb_k0 hk60 hz67p).1.resolve_left q; exact ⟨this.1, this.2.1, this.2.2.1⟩) hF59 hk60 hk61 hk62 hk63 (fun a h7 h25 => (((he57 a h25).trans (he44 a h25)).trans (hov a h7 h25))) (by have hr := rst_n hw (nb_k0 hk60 hz67p); omega) (by first | omega | (unfold ra_in at *; omega)))
theorem sp_336 {n : Nat} {f : Nat → Int32} {d : Nat}  {σ : ra_V} (hw : WF σ) : ra_C (g_Gs n f) g_sh 0 (d + 4) 336 [.index (179)] σ (fun r s => rI r ∧ Fr (179) (191) σ s ∧ s (180) = σ (180) ∧ s (183) = σ (183) ∧ s (184) = σ (184) ∧ s (187) = σ (187) ∧ (∀ a, a ≠ 7 → a ≠ 25 → ra_g s 179 a = ra_g σ 179 a) ∧ 0 ≤ ra_g s 179 25 ∧ ra_g s 179 25 ≤ 150) := by
  refine ra_enter (nn := 1) mt_336 rfl (Nat.le_of_ble_eq_true rfl) rfl (fun h => absurd h (by decide +kernel)) ?_
  have hw0 := WF_a hw
  unfold WFa at hw0
  refine ra_load rfl rfl rfl rfl ?_
  refine ra_iconst rfl ?_
  refine ra_putI rfl lk_8_51 (Nat.zero_le _) sh_179 rfl rfl ?_
  refine ra_newU (by first | omega | (unfold ra_in at *; omega)) (fun s1 hs1 hp2 hp2o => ?_)
  have hp2_25 := hp2o 25 (by decide)
  have hF3 := Fr_tr (lo := 179) (hi := 191) Fr_rf hs1 (by omega)
  have hk4 : s1 (180) = σ (180) := (hs1 (180) (by omega))
  have hk5 : s1 (183) = σ (183) := (hs1 (183) (by omega))
  have hk6 : s1 (184) = σ (184) := (hs1 (184) (by omega))
  have hk7 : s1 (187) = σ (187) := (hs1 (187) (by omega))
  refine ra_load rfl rfl rfl rfl ?_
  refine ra_iconst rfl ?_
  refine ra_putI rfl lk_8_427 (Nat.zero_le _) sh_179 rfl rfl ?_
  refine ra_newU (by first | omega | (unfold ra_in at *; omega)) (fun s8 hs8 hp9 hp9o => ?_)
  have hF10 := Fr_tr (lo := 179) (hi := 191) hF3 hs8 (by omega)
  have hk11 : s8 (180) = σ (180) := (hs8 (180) (by omega)).trans hk4
  have hk12 : s8 (183) = σ (183) := (hs8 (183) (by omega)).trans hk5
  have hk13 : s8 (184) = σ (184) := (hs8 (184) (by omega)).trans hk6
  have hk14 : s8 (187) = σ (187) := (hs8 (187) (by omega)).trans hk7
  refine ra_load rfl rfl rfl rfl ?_
  refine ra_iconst rfl ?_
  refine ra_cIPp (sp_277 (by first | omega | (unfold ra_in at *; omega))) rfl (ct_277 rfl lk_8_333 (Or.inl rfl) sh_179 (Nat.le_of_ble_eq_true rfl)) (fun z16 hz16 hz16p => ?_)
  refine ra_store (L' := [_, _]) rfl rfl rfl (Nat.le_of_ble_eq_true rfl) rfl ?_
  exact ra_weak (by repeat' constructor) (lp_336_16 hw _ z16 s8 (by have := (nb_k0 hk11 hz16p).1; omega) (fun q => by have := (nb_k0 hk11 hz16p).1.resolve_left q; exact ⟨this.1, this.2.1, this.2.2.1⟩) hF10 hk11 hk12 hk13 hk14 (fun a h7 h25 => ((hp9o a (by assumption)).trans (hp2o a (by assumption)))) (by have hr := rst_n hw (nb_k0 hk11 hz16p); have hc := ct_b (σ := σ) (c := -1); omega) (Nat.lt_succ_self _))
end RB
