/-! the reference: what its methods do (printed by wip/gen/ref.py) -/
section RB
theorem lp_335_18 {n : Nat} {f : Nat → Int32} {d : Nat} {x0 : Int} {σ : ra_V} (hx0 : ra_in x0) (hi : 0 ≤ x0 ∧ x0 ≤ 999) (ho : 0 ≤ ra_g σ 179 25 ∧ ra_g σ 179 25 + 3 ≤ 150) : ∀ (nn : Nat) (v2 : Int) (s : ra_V) (hv2_0 : v2 = 0 ∨ v2 = 1 ∨ v2 = 10 ∨ v2 = 100) (hF : Fr (179) (191) σ s) (hk0 : s (180) = σ (180)) (hk1 : s (183) = σ (183)) (hk2 : s (184) = σ (184)) (hov : ∀ a, a ≠ 25 → ra_g s 179 a = ra_g σ 179 a) (hnl : ra_g σ 179 25 ≤ ra_g s 179 25 ∧ (v2 = 0 → ra_g s 179 25 ≤ ra_g σ 179 25 + 3) ∧ (v2 = 1 → ra_g s 179 25 ≤ ra_g σ 179 25 + 2) ∧ (v2 = 10 → ra_g s 179 25 ≤ ra_g σ 179 25 + 1) ∧ (v2 = 100 → ra_g s 179 25 ≤ ra_g σ 179 25)) (hm : ((v2 : Int)).toNat < nn), ra_P (g_Gs n f) g_sh 0 (d + 1) g_m_X8_writeNumber 18 [some (.index (179)), some (ra_I x0), some (ra_I v2)] [] s (fun r s => rV r ∧ Fr (179) (191) σ s ∧ s (180) = σ (180) ∧ s (183) = σ (183) ∧ s (184) = σ (184) ∧ (∀ a, a ≠ 25 → ra_g s 179 a = ra_g σ 179 a) ∧ ra_g σ 179 25 ≤ ra_g s 179 25 ∧ ra_g s 179 25 ≤ ra_g σ 179 25 + 3) := by
  intro nn
  induction nn with
  | zero => intro v2 s hv2_0 hF hk0 hk1 hk2 hov hnl hm; exact absurd hm (Nat.not_lt_zero _)
  | succ nn ih =>
    intro v2 s hv2_0 hF hk0 hk1 hk2 hov hnl hm
    have hd := wn_d hv2_0
    refine ra_load rfl rfl rfl rfl ?_
    refine ra_ifle rfl rfl (by first | omega | (unfold ra_in at *; omega)) (fun h2 => ?_) (fun h2 => ?_)
    · exact ra_return rfl rfl ⟨rfl, ⟨hF, hk0, hk1, hk2, (fun a h => (hov a h)), by omega⟩⟩
    · refine ra_load rfl rfl rfl rfl ?_
      refine ra_bipush rfl (by decide) ?_
      refine ra_load rfl rfl rfl rfl ?_
      refine ra_load rfl rfl rfl rfl ?_
      refine ra_idiv rfl hx0 (by first | omega | (unfold ra_in at *; omega)) (by omega) ?_
      refine ra_bipush rfl (by decide) ?_
      refine ra_irem rfl (ra_in_tdiv hx0 (by omega)) (by first | omega | (unfold ra_in at *; omega)) (by omega) ?_
      refine ra_iadd rfl ?_
      refine ra_gen (fun z3 hz3 => ?_)
      refine ra_cV (sp_334 hz3 (by omega)) rfl (ct_334 rfl lk_8_430 (Or.inl rfl) sh_179 (Nat.le_of_ble_eq_true rfl)) (fun s4 hs4 => ?_)
      obtain ⟨hf5, hc6, hc7, hc8, he9, he10⟩ := hs4
      have hF11 := Fr_tr (lo := 179) (hi := 191) hF hf5 (by omega)
      have hk12 : s4 (180) = σ (180) := hc6.trans hk0
      have hk13 : s4 (183) = σ (183) := hc7.trans hk1
      have hk14 : s4 (184) = σ (184) := hc8.trans hk2
      refine ra_load rfl rfl rfl rfl ?_
      refine ra_bipush rfl (by decide) ?_
      refine ra_idiv rfl (by first | omega | (unfold ra_in at *; omega)) (by first | omega | (unfold ra_in at *; omega)) (by omega) ?_
      refine ra_store (L' := [_, _, _]) rfl rfl rfl (Nat.le_of_ble_eq_true rfl) rfl ?_
      refine ra_goto rfl rfl ?_
      exact ra_weak (by repeat' constructor) (ih (v2.tdiv (10)) s4 (by first | omega | (unfold ra_in at *; omega)) hF11 hk12 hk13 hk14 (fun a h => ((he9 a h).trans (hov a h))) (by omega) (by first | omega | (unfold ra_in at *; omega)))
theorem lp_335_2 {n : Nat} {f : Nat → Int32} {d : Nat} {x0 : Int} {σ : ra_V} (hx0 : ra_in x0) (hi : 0 ≤ x0 ∧ x0 ≤ 999) (ho : 0 ≤ ra_g σ 179 25 ∧ ra_g σ 179 25 + 3 ≤ 150) : ∀ (nn : Nat) (v2 : Int) (hv2_0 : v2 = 1 ∨ v2 = 10 ∨ v2 = 100) (hm : ((1000 - v2 : Int)).toNat < nn), ra_P (g_Gs n f) g_sh 0 (d + 1) g_m_X8_writeNumber 2 [some (.index (179)), some (ra_I x0), some (ra_I v2)] [] σ (fun r s => rV r ∧ Fr (179) (191) σ s ∧ s (180) = σ (180) ∧ s (183) = σ (183) ∧ s (184) = σ (184) ∧ (∀ a, a ≠ 25 → ra_g s 179 a = ra_g σ 179 a) ∧ ra_g σ 179 25 ≤ ra_g s 179 25 ∧ ra_g s 179 25 ≤ ra_g σ 179 25 + 3) := by
  intro nn
  induction nn with
  | zero => intro v2 hv2_0 hm; exact absurd hm (Nat.not_lt_zero _)
  | succ nn ih =>
    intro v2 hv2_0 hm
    refine ra_load rfl rfl rfl rfl ?_
    refine ra_load rfl rfl rfl rfl ?_
    refine ra_idiv rfl hx0 (by first | omega | (unfold ra_in at *; omega)) (by omega) ?_
    refine ra_bipush rfl (by decide) ?_
    refine ra_icle rfl rfl (ra_in_tdiv hx0 (by omega)) (by first | omega | (unfold ra_in at *; omega)) (fun h1 => ?_) (fun h1 => ?_)
    · exact ra_weak (by repeat' constructor) (lp_335_18 hx0 hi ho _ v2 σ (by first | omega | (unfold ra_in at *; omega)) Fr_rf rfl rfl rfl (fun _ _ => rfl) (by omega) (Nat.lt_succ_self _))
    · have ht := wn_t hi.1 hv2_0 hi.2 (by omega)
      refine ra_load rfl rfl rfl rfl ?_
      refine ra_bipush rfl (by decide) ?_
      refine ra_imul rfl ?_
      refine ra_store (L' := [_, _, _]) rfl rfl rfl (Nat.le_of_ble_eq_true rfl) rfl ?_
      refine ra_goto rfl rfl ?_
      exact ra_weak (by repeat' constructor) (ih (v2 * (10)) (by first | omega | (unfold ra_in at *; omega)) (by first | omega | (unfold ra_in at *; omega)))
theorem sp_335 {n : Nat} {f : Nat → Int32} {d : Nat} {x0 : Int} {σ : ra_V} (hx0 : ra_in x0) (hi : 0 ≤ x0 ∧ x0 ≤ 999) (ho : 0 ≤ ra_g σ 179 25 ∧ ra_g σ 179 25 + 3 ≤ 150) : ra_C (g_Gs n f) g_sh 0 (d + 2) 335 [.index (179), ra_I x0] σ (fun r s => rV r ∧ Fr (179) (191) σ s ∧ s (180) = σ (180) ∧ s (183) = σ (183) ∧ s (184) = σ (184) ∧ (∀ a, a ≠ 25 → ra_g s 179 a = ra_g σ 179 a) ∧ ra_g σ 179 25 ≤ ra_g s 179 25 ∧ ra_g s 179 25 ≤ ra_g σ 179 25 + 3) := by
  refine ra_enter (nn := 1) mt_335 rfl (Nat.le_of_ble_eq_true rfl) rfl (fun h => absurd h (by decide +kernel)) ?_
  refine ra_iconst rfl ?_
  refine ra_store (L' := [_, _, _]) rfl rfl rfl (Nat.le_of_ble_eq_true rfl) rfl ?_
  exact ra_weak (by repeat' constructor) (lp_335_2 hx0 hi ho _ (1) (by first | omega | (unfold ra_in at *; omega)) (Nat.lt_succ_self _))
theorem sp_337 {n : Nat} {f : Nat → Int32} {d : Nat} {x0 : Int} {σ : ra_V} (hx0 : ra_in x0) (hw : WF σ) (hp : 0 ≤ x0 ∧ x0 < 8 ∧ wq σ x0 0 = 1) (ho : 0 ≤ ra_g σ 179 25 ∧ ra_g σ 179 25 + 14 ≤ 150) : ra_C (g_Gs n f) g_sh 0 (d + 3) 337 [.index (179), ra_I x0] σ (fun r s => rV r ∧ Fr (179) (191) σ s ∧ s (180) = σ (180) ∧ s (183) = σ (183) ∧ s (184) = σ (184) ∧ (∀ a, a ≠ 25 → ra_g s 179 a = ra_g σ 179 a) ∧ ra_g σ 179 25 ≤ ra_g s 179 25 ∧ ra_g s 179 25 ≤ ra_g σ 179 25 + 14) := by
  refine ra_enter (nn := 0) mt_337 rfl (Nat.le_of_ble_eq_true rfl) rfl (fun h => absurd h (by decide +kernel)) ?_
  have hw0 := WF_a hw
  unfold WFa at hw0
  have hq := WF_p hw hp.1 hp.2.1 hp.2.2
  refine ra_load rfl rfl rfl rfl ?_
  refine ra_load rfl rfl rfl rfl ?_
  refine ra_cV (sp_335 hx0 (by omega) (by omega)) rfl (ct_335 rfl lk_8_436 (Or.inl rfl) sh_179 (Nat.le_of_ble_eq_true rfl)) (fun s1 hs1 => ?_)
  obtain ⟨hf2, hc3, hc4, hc5, he6, he7⟩ := hs1
  have hF8 := Fr_tr (lo := 179) (hi := 191) Fr_rf hf2 (by omega)
  have hk9 : s1 (180) = σ (180) := hc3
  have hk10 : s1 (183) = σ (183) := hc4
  have hk11 : s1 (184) = σ (184) := hc5
  refine ra_load rfl rfl rfl rfl ?_
  refine ra_bipush rfl (by decide) ?_
  refine ra_cV (sp_334 (by first | omega | (unfold ra_in at *; omega)) (by omega)) rfl (ct_334 rfl lk_8_430 (Or.inl rfl) sh_179 (Nat.le_of_ble_eq_true rfl)) (fun s12 hs12 => ?_)
  obtain ⟨hf13, hc14, hc15, hc16, he17, he18⟩ := hs12
  have hF19 := Fr_tr (lo := 179) (hi := 191) hF8 hf13 (by omega)
  have hk20 : s12 (180) = σ (180) := hc14.trans hk9
  have hk21 : s12 (183) = σ (183) := hc15.trans hk10
  have hk22 : s12 (184) = σ (184) := hc16.trans hk11
  refine ra_load rfl rfl rfl rfl ?_
  refine ra_load rfl rfl rfl rfl ?_
  refine ra_load rfl rfl rfl rfl ?_
  refine ra_iconst rfl ?_
  refine ra_cTp (sp_199 hx0 (by first | omega | (unfold ra_in at *; omega)) (by first | assumption | rfl | omega)) rfl (ct_199 rfl lk_8_67 (Or.inl rfl) sh_179 (Nat.le_of_ble_eq_true rfl)) ?_
  rw [wq_k hk20]
  have hr24 : ra_in (wq σ x0 (1)) := (ra_in_wq _ _ _)
  refine ra_cV (sp_335 hr24 (by omega) (by omega)) rfl (ct_335 rfl lk_8_436 (Or.inl rfl) sh_179 (Nat.le_of_ble_eq_true rfl)) (fun s25 hs25 => ?_)
  obtain ⟨hf26, hc27, hc28, hc29, he30, he31⟩ := hs25
  have hF32 := Fr_tr (lo := 179) (hi := 191) hF19 hf26 (by omega)
  have hk33 : s25 (180) = σ (180) := hc27.trans hk20
  have hk34 : s25 (183) = σ (183) := hc28.trans hk21
  have hk35 : s25 (184) = σ (184) := hc29.trans hk22
  refine ra_load rfl rfl rfl rfl ?_
  refine ra_bipush rfl (by decide) ?_
  refine ra_cV (sp_334 (by first | omega | (unfold ra_in at *; omega)) (by omega)) rfl (ct_334 rfl lk_8_430 (Or.inl rfl) sh_179 (Nat.le_of_ble_eq_true rfl)) (fun s36 hs36 => ?_)
  obtain ⟨hf37, hc38, hc39, hc40, he41, he42⟩ := hs36
  have hF43 := Fr_tr (lo := 179) (hi := 191) hF32 hf37 (by omega)
  have hk44 : s36 (180) = σ (180) := hc38.trans hk33
  have hk45 : s36 (183) = σ (183) := hc39.trans hk34
  have hk46 : s36 (184) = σ (184) := hc40.trans hk35
  refine ra_load rfl rfl rfl rfl ?_
  refine ra_load rfl rfl rfl rfl ?_
  refine ra_load rfl rfl rfl rfl ?_
  refine ra_iconst rfl ?_
  refine ra_cTp (sp_199 hx0 (by first | omega | (unfold ra_in at *; omega)) (by first | assumption | rfl | omega)) rfl (ct_199 rfl lk_8_67 (Or.inl rfl) sh_179 (Nat.le_of_ble_eq_true rfl)) ?_
  rw [wq_k hk44]
  have hr48 : ra_in (wq σ x0 (2)) := (ra_in_wq _ _ _)
  refine ra_cV (sp_335 hr48 (by omega) (by omega)) rfl (ct_335 rfl lk_8_436 (Or.inl rfl) sh_179 (Nat.le_of_ble_eq_true rfl)) (fun s49 hs49 => ?_)
  obtain ⟨hf50, hc51, hc52, hc53, he54, he55⟩ := hs49
  have hF56 := Fr_tr (lo := 179) (hi := 191) hF43 hf50 (by omega)
  have hk57 : s49 (180) = σ (180) := hc51.trans hk44
  have hk58 : s49 (183) = σ (183) := hc52.trans hk45
  have hk59 : s49 (184) = σ (184) := hc53.trans hk46
  refine ra_load rfl rfl rfl rfl ?_
  refine ra_bipush rfl (by decide) ?_
  refine ra_cV (sp_334 (by first | omega | (unfold ra_in at *; omega)) (by omega)) rfl (ct_334 rfl lk_8_430 (Or.inl rfl) sh_179 (Nat.le_of_ble_eq_true rfl)) (fun s60 hs60 => ?_)
  obtain ⟨hf61, hc62, hc63, hc64, he65, he66⟩ := hs60
  have hF67 := Fr_tr (lo := 179) (hi := 191) hF56 hf61 (by omega)
  have hk68 : s60 (180) = σ (180) := hc62.trans hk57
  have hk69 : s60 (183) = σ (183) := hc63.trans hk58
  have hk70 : s60 (184) = σ (184) := hc64.trans hk59
  refine ra_load rfl rfl rfl rfl ?_
  refine ra_load rfl rfl rfl rfl ?_
  refine ra_iconst rfl ?_
  refine ra_cTp (sp_199 hx0 (by first | omega | (unfold ra_in at *; omega)) (by first | assumption | rfl | omega)) rfl (ct_199 rfl lk_8_67 (Or.inl rfl) sh_179 (Nat.le_of_ble_eq_true rfl)) ?_
  rw [wq_k hk68]
  have hr72 : ra_in (wq σ x0 (5)) := (ra_in_wq _ _ _)
  refine ra_iconst rfl ?_
  refine ra_icne rfl rfl hr72 (by first | omega | (unfold ra_in at *; omega)) (fun h73 => ?_) (fun h73 => ?_)
  · refine ra_load rfl rfl rfl rfl ?_
    refine ra_load rfl rfl rfl rfl ?_
    refine ra_cQPp (sp_204 hx0) rfl (ct_204 rfl lk_8_71 (Or.inl rfl) sh_179 (Nat.le_of_ble_eq_true rfl)) (fun z75 hz75 hz75p => ?_)
    refine ra_ifeq rfl rfl (ra_in01 hz75) (fun h76 => ?_) (fun h76 => ?_)
    · exact ra_return rfl rfl ⟨rfl, ⟨hF67, hk68, hk69, hk70, (fun a h => ((he65 a h).trans ((he54 a h).trans ((he41 a h).trans ((he30 a h).trans ((he17 a h).trans (he6 a h))))))), by omega⟩⟩
    · refine ra_load rfl rfl rfl rfl ?_
      refine ra_bipush rfl (by decide) ?_
      refine ra_cV (sp_334 (by first | omega | (unfold ra_in at *; omega)) (by omega)) rfl (ct_334 rfl lk_8_430 (Or.inl rfl) sh_179 (Nat.le_of_ble_eq_true rfl)) (fun s77 hs77 => ?_)
      obtain ⟨hf78, hc79, hc80, hc81, he82, he83⟩ := hs77
      have hF84 := Fr_tr (lo := 179) (hi := 191) hF67 hf78 (by omega)
      have hk85 : s77 (180) = σ (180) := hc79.trans hk68
      have hk86 : s77 (183) = σ (183) := hc80.trans hk69
      have hk87 : s77 (184) = σ (184) := hc81.trans hk70
      exact ra_return rfl rfl ⟨rfl, ⟨hF84, hk85, hk86, hk87, (fun a h => ((he82 a h).trans ((he65 a h).trans ((he54 a h).trans ((he41 a h).trans ((he30 a h).trans ((he17 a h).trans (he6 a h)))))))), by omega⟩⟩
  · refine ra_load rfl rfl rfl rfl ?_
    refine ra_bipush rfl (by decide) ?_
    refine ra_cV (sp_334 (by first | omega | (unfold ra_in at *; omega)) (by omega)) rfl (ct_334 rfl lk_8_430 (Or.inl rfl) sh_179 (Nat.le_of_ble_eq_true rfl)) (fun s88 hs88 => ?_)
    obtain ⟨hf89, hc90, hc91, hc92, he93, he94⟩ := hs88
    have hF95 := Fr_tr (lo := 179) (hi := 191) hF67 hf89 (by omega)
    have hk96 : s88 (180) = σ (180) := hc90.trans hk68
    have hk97 : s88 (183) = σ (183) := hc91.trans hk69
    have hk98 : s88 (184) = σ (184) := hc92.trans hk70
    refine ra_load rfl rfl rfl rfl ?_
    refine ra_load rfl rfl rfl rfl ?_
    refine ra_cQPp (sp_204 hx0) rfl (ct_204 rfl lk_8_71 (Or.inl rfl) sh_179 (Nat.le_of_ble_eq_true rfl)) (fun z100 hz100 hz100p => ?_)
    refine ra_ifeq rfl rfl (ra_in01 hz100) (fun h101 => ?_) (fun h101 => ?_)
    · exact ra_return rfl rfl ⟨rfl, ⟨hF95, hk96, hk97, hk98, (fun a h => ((he93 a h).trans ((he65 a h).trans ((he54 a h).trans ((he41 a h).trans ((he30 a h).trans ((he17 a h).trans (he6 a h)))))))), by omega⟩⟩
    · refine ra_load rfl rfl rfl rfl ?_
      refine ra_bipush rfl (by decide) ?_
      refine ra_cV (sp_334 (by first | omega | (unfold ra_in at *; omega)) (by omega)) rfl (ct_334 rfl lk_8_430 (Or.inl rfl) sh_179 (Nat.le_of_ble_eq_true rfl)) (fun s102 hs102 => ?_)
      obtain ⟨hf103, hc104, hc105, hc106, he107, he108⟩ := hs102
      have hF109 := Fr_tr (lo := 179) (hi := 191) hF95 hf103 (by omega)
      have hk110 : s102 (180) = σ (180) := hc104.trans hk96
      have hk111 : s102 (183) = σ (183) := hc105.trans hk97
      have hk112 : s102 (184) = σ (184) := hc106.trans hk98
      exact ra_return rfl rfl ⟨rfl, ⟨hF109, hk110, hk111, hk112, (fun a h => ((he107 a h).trans ((he93 a h).trans ((he65 a h).trans ((he54 a h).trans ((he41 a h).trans ((he30 a h).trans ((he17 a h).trans (he6 a h))))))))), by omega⟩⟩
theorem lp_336_16 {n : Nat} {f : Nat → Int32} {d : Nat}  {σ : ra_V} (hw : WF σ) : ∀ (nn : Nat) (v1 : Int) (s : ra_V) (hv1_0 : -1 ≤ v1 ∧ v1 < 8) (hv1_1 : v1 ≠ -1 → (0 ≤ v1 ∧ v1 < 8 ∧ wq σ v1 0 = 1)) (hF : Fr (179) (191) σ s) (hk0 : s (180) = σ (180)) (hk1 : s (183) = σ (183)) (hk2 : s (184) = σ (184)) (hov : ∀ a, a ≠ 7 → a ≠ 25 → ra_g s 179 a = ra_g σ 179 a) (hnl : 0 ≤ ra_g s 179 25 ∧ ra_g s 179 25 + 15 * rst σ v1 ≤ 120) (hm : ((rst σ v1 : Int)).toNat < nn), ra_P (g_Gs n f) g_sh 0 (d + 3) g_m_X8_printDisk 16 [some (.index (179)), some (ra_I v1)] [] s (fun r s => rI r ∧ Fr (179) (191) σ s ∧ s (180) = σ (180) ∧ s (183) = σ (183) ∧ s (184) = σ (184) ∧ (∀ a, a ≠ 7 → a ≠ 25 → ra_g s 179 a = ra_g σ 179 a) ∧ 0 ≤ ra_g s 179 25 ∧ ra_g s 179 25 ≤ 150) := by
  intro nn
  induction nn with
  | zero => intro v1 s hv1_0 hv1_1 hF hk0 hk1 hk2 hov hnl hm; exact absurd hm (Nat.not_lt_zero _)
  | succ nn ih =>
    intro v1 s hv1_0 hv1_1 hF hk0 hk1 hk2 hov hnl hm
    have hrb := rst_b (σ := σ) (z := v1)
    have hry : v1 ≠ -1 → rst σ v1 = ct σ (wq σ v1 1) + 1 := fun q => rst_y q
    have hcb := (ct_b (σ := σ) (c := wq σ v1 1)).1
    refine ra_load rfl rfl rfl rfl ?_
    refine ra_iconst rfl ?_
    refine ra_iceq rfl rfl (by first | omega | (unfold ra_in at *; omega)) (by first | omega | (unfold ra_in at *; omega)) (fun h15 => ?_) (fun h15 => ?_)
    · refine ra_load rfl rfl rfl rfl ?_
      refine ra_getI rfl lk_8_427 (Nat.zero_le _) sh_179 rfl ?_
      have hr16 : ra_in (ra_g s (179) 25) := (ra_in_g _ _ _)
      exact ra_ireturn rfl rfl ⟨⟨_, hr16, rfl⟩, ⟨hF, hk0, hk1, hk2, hov, by have := rst_b (σ := σ) (z := v1); omega⟩⟩
    · refine ra_load rfl rfl rfl rfl ?_
      refine ra_getI rfl lk_8_427 (Nat.zero_le _) sh_179 rfl ?_
      have hr17 : ra_in (ra_g s (179) 25) := (ra_in_g _ _ _)
      refine ra_ifle rfl rfl hr17 (fun h18 => ?_) (fun h18 => ?_)
      · refine ra_load rfl rfl rfl rfl ?_
        refine ra_load rfl rfl rfl rfl ?_
        refine ra_cV (sp_337 (by first | omega | (unfold ra_in at *; omega)) (WF_k hk0 hw) (by have a := hv1_1 (by omega); first | exact ⟨a.1, a.2.1, (wq_k hk0).trans a.2.2⟩ | omega) (by omega)) rfl (ct_337 rfl lk_8_433 (Or.inl rfl) sh_179 (Nat.le_of_ble_eq_true rfl)) (fun s19 hs19 => ?_)
        obtain ⟨hf20, hc21, hc22, hc23, he24, he25⟩ := hs19
        have hF26 := Fr_tr (lo := 179) (hi := 191) hF hf20 (by omega)
        have hk27 : s19 (180) = σ (180) := hc21.trans hk0
        have hk28 : s19 (183) = σ (183) := hc22.trans hk1
        have hk29 : s19 (184) = σ (184) := hc23.trans hk2
        refine ra_load rfl rfl rfl rfl ?_
        refine ra_load rfl rfl rfl rfl ?_
        refine ra_load rfl rfl rfl rfl ?_
        refine ra_iconst rfl ?_
        refine ra_cTp (sp_199 (by first | omega | (unfold ra_in at *; omega)) (by first | omega | (unfold ra_in at *; omega)) (by have a := hv1_1 (by omega); first | exact ⟨a.1, a.2.1, (wq_k hk27).trans a.2.2⟩ | omega)) rfl (ct_199 rfl lk_8_67 (Or.inl rfl) sh_179 (Nat.le_of_ble_eq_true rfl)) ?_
        rw [wq_k hk27]
        have hr31 : ra_in (wq σ v1 (1)) := (ra_in_wq _ _ _)
        refine ra_cIPp (sp_277 hr31) rfl (ct_277 rfl lk_8_333 (Or.inl rfl) sh_179 (Nat.le_of_ble_eq_true rfl)) (fun z33 hz33 hz33p => ?_)
        have hrn := rst_n hw (nb_k0 hk27 hz33p)
        refine ra_store (L' := [_, _]) rfl rfl rfl (Nat.le_of_ble_eq_true rfl) rfl ?_
        refine ra_goto rfl rfl ?_
        exact ra_weak (by repeat' constructor) (ih z33 s19 (by have := (nb_k0 hk27 hz33p).1; omega) (fun q => by have := (nb_k0 hk27 hz33p).1.resolve_left q; exact ⟨this.1, this.2.1, this.2.2.1⟩) hF26 hk27 hk28 hk29 (fun a h7 h25 => ((he24 a h25).trans (hov a h7 h25))) (by have hr := rst_n hw (nb_k0 hk27 hz33p); omega) (by first | omega | (unfold ra_in at *; omega)))
      · refine ra_load rfl rfl rfl rfl ?_
        refine ra_bipush rfl (by decide) ?_
        refine ra_cV (sp_334 (by first | omega | (unfold ra_in at *; omega)) (by omega)) rfl (ct_334 rfl lk_8_430 (Or.inl rfl) sh_179 (Nat.le_of_ble_eq_true rfl)) (fun s34 hs34 => ?_)
        obtain ⟨hf35, hc36, hc37, hc38, he39, he40⟩ := hs34
        have hF41 := Fr_tr (lo := 179) (hi := 191) hF hf35 (by omega)
        have hk42 : s34 (180) = σ (180) := hc36.trans hk0
        have hk43 : s34 (183) = σ (183) := hc37.trans hk1
        have hk44 : s34 (184) = σ (184) := hc38.trans hk2
        refine ra_load rfl rfl rfl rfl ?_
        refine ra_load rfl rfl rfl rfl ?_
        refine ra_cV (sp_337 (by first | omega | (unfold ra_in at *; omega)) (WF_k hk42 hw) (by have a := hv1_1 (by omega); first | exact ⟨a.1, a.2.1, (wq_k hk42).trans a.2.2⟩ | omega) (by omega)) rfl (ct_337 rfl lk_8_433 (Or.inl rfl) sh_179 (Nat.le_of_ble_eq_true rfl)) (fun s45 hs45 => ?_)
        obtain ⟨hf46, hc47, hc48, hc49, he50, he51⟩ := hs45
        have hF52 := Fr_tr (lo := 179) (hi := 191) hF41 hf46 (by omega)
        have hk53 : s45 (180) = σ (180) := hc47.trans hk42
        have hk54 : s45 (183) = σ (183) := hc48.trans hk43
        have hk55 : s45 (184) = σ (184) := hc49.trans hk44
        refine ra_load rfl rfl rfl rfl ?_
        refine ra_load rfl rfl rfl rfl ?_
        refine ra_load rfl rfl rfl rfl ?_
        refine ra_iconst rfl ?_
        refine ra_cTp (sp_199 (by first | omega | (unfold ra_in at *; omega)) (by first | omega | (unfold ra_in at *; omega)) (by have a := hv1_1 (by omega); first | exact ⟨a.1, a.2.1, (wq_k hk53).trans a.2.2⟩ | omega)) rfl (ct_199 rfl lk_8_67 (Or.inl rfl) sh_179 (Nat.le_of_ble_eq_true rfl)) ?_
        rw [wq_k hk53]
        have hr57 : ra_in (wq σ v1 (1)) := (ra_in_wq _ _ _)
        refine ra_cIPp (sp_277 hr57) rfl (ct_277 rfl lk_8_333 (Or.inl rfl) sh_179 (Nat.le_of_ble_eq_true rfl)) (fun z59 hz59 hz59p => ?_)
        have hrn := rst_n hw (nb_k0 hk53 hz59p)
        refine ra_store (L' := [_, _]) rfl rfl rfl (Nat.le_of_ble_eq_true rfl) rfl ?_
        refine ra_goto rfl rfl ?_
        exact ra_weak (by repeat' constructor) (ih z59 s45 (by have := (nb_k0 hk53 hz59p).1; omega) (fun q => by have := (nb_k0 hk53 hz59p).1.resolve_left q; exact ⟨this.1, this.2.1, this.2.2.1⟩) hF52 hk53 hk54 hk55 (fun a h7 h25 => (((he50 a h25).trans (he39 a h25)).trans (hov a h7 h25))) (by have hr := rst_n hw (nb_k0 hk53 hz59p); omega) (by first | omega | (unfold ra_in at *; omega)))
theorem sp_336 {n : Nat} {f : Nat → Int32} {d : Nat}  {σ : ra_V} (hw : WF σ) : ra_C (g_Gs n f) g_sh 0 (d + 4) 336 [.index (179)] σ (fun r s => rI r ∧ Fr (179) (191) σ s ∧ s (180) = σ (180) ∧ s (183) = σ (183) ∧ s (184) = σ (184) ∧ (∀ a, a ≠ 7 → a ≠ 25 → ra_g s 179 a = ra_g σ 179 a) ∧ 0 ≤ ra_g s 179 25 ∧ ra_g s 179 25 ≤ 150) := by
  refine ra_enter (nn := 1) mt_336 rfl (Nat.le_of_ble_eq_true rfl) rfl (fun h => absurd h (by decide +kernel)) ?_
  have hw0 := WF_a hw
  unfold WFa at hw0
  refine ra_load rfl rfl rfl rfl ?_
  refine ra_iconst rfl ?_
  refine ra_putI rfl lk_8_51 (Nat.zero_le _) sh_179 rfl rfl ?_
  refine ra_newU (by first | omega | (unfold ra_in at *; omega)) (fun s1 hs1 hp2 hp2o => ?_)
  have hp2_25 := hp2o 25 (by decide)
  have hF3 := Fr_tr (lo := 179) (hi := 191) Fr_rf hs1 (by omega)
  have hk4 : s1 (180) = σ (180) := (hs1 (180) (by omega))
  have hk5 : s1 (183) = σ (183) := (hs1 (183) (by omega))
  have hk6 : s1 (184) = σ (184) := (hs1 (184) (by omega))
  refine ra_load rfl rfl rfl rfl ?_
  refine ra_iconst rfl ?_
  refine ra_putI rfl lk_8_427 (Nat.zero_le _) sh_179 rfl rfl ?_
  refine ra_newU (by first | omega | (unfold ra_in at *; omega)) (fun s7 hs7 hp8 hp8o => ?_)
  have hF9 := Fr_tr (lo := 179) (hi := 191) hF3 hs7 (by omega)
  have hk10 : s7 (180) = σ (180) := (hs7 (180) (by omega)).trans hk4
  have hk11 : s7 (183) = σ (183) := (hs7 (183) (by omega)).trans hk5
  have hk12 : s7 (184) = σ (184) := (hs7 (184) (by omega)).trans hk6
  refine ra_load rfl rfl rfl rfl ?_
  refine ra_iconst rfl ?_
  refine ra_cIPp (sp_277 (by first | omega | (unfold ra_in at *; omega))) rfl (ct_277 rfl lk_8_333 (Or.inl rfl) sh_179 (Nat.le_of_ble_eq_true rfl)) (fun z14 hz14 hz14p => ?_)
  refine ra_store (L' := [_, _]) rfl rfl rfl (Nat.le_of_ble_eq_true rfl) rfl ?_
  exact ra_weak (by repeat' constructor) (lp_336_16 hw _ z14 s7 (by have := (nb_k0 hk10 hz14p).1; omega) (fun q => by have := (nb_k0 hk10 hz14p).1.resolve_left q; exact ⟨this.1, this.2.1, this.2.2.1⟩) hF9 hk10 hk11 hk12 (fun a h7 h25 => ((hp8o a (by assumption)).trans (hp2o a (by assumption)))) (by have hr := rst_n hw (nb_k0 hk10 hz14p); have hc := ct_b (σ := σ) (c := -1); omega) (Nat.lt_succ_self _))
end RB
