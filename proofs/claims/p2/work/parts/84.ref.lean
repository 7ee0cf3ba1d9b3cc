/-! the reference: what its methods do (printed by wip/gen/ref.py) -/
section RB
theorem sp_318 {n : Nat} {f : Nat → Int32} {d : Nat} {x0 : Int} {σ : ra_V} (hx0 : ra_in x0) (hw : WF σ) (hpw : PW σ) : ra_C (g_Gs n f) g_sh 0 (d + 11) 318 [.index (179), ra_I x0] σ (fun r s => rI r ∧ Fr (179) (191) σ s ∧ s (183) = σ (183) ∧ (∀ a, a ≠ 5 → a ≠ 7 → a ≠ 10 → ra_g s 179 a = ra_g σ 179 a) ∧ WF s ∧ PW s) := by
  refine ra_enter (nn := 0) mt_318 rfl (Nat.le_of_ble_eq_true rfl) rfl (fun h => absurd h (by decide +kernel)) ?_
  have hw0 := WF_a hw
  unfold WFa at hw0
  refine ra_load rfl rfl rfl rfl ?_
  refine ra_iconst rfl ?_
  refine ra_putI rfl lk_8_51 (Nat.zero_le _) sh_179 rfl rfl ?_
  refine ra_newU (by first | omega | (unfold ra_in at *; omega)) (fun s1 hs1 hp2 hp2o => ?_)
  have hp2_99 := hp2o 99 (by decide)
  have hF3 := Fr_tr (lo := 179) (hi := 191) Fr_rf hs1 (by omega)
  have hk4 : s1 (180) = σ (180) := (hs1 (180) (by omega))
  have hk5 : s1 (183) = σ (183) := (hs1 (183) (by omega))
  have hk6 : s1 (184) = σ (184) := (hs1 (184) (by omega))
  have hg7 : ∀ a, a ≠ 5 → a ≠ 7 → a ≠ 10 → ra_g s1 179 a = ra_g σ 179 a := fun a h5 h7 h10 => ((fun a h7 h10 => hp2o a h7) a h7 h10).trans ((fun _ _ _ _ => rfl) a h5 h7 h10)
  have ho8 : ∀ a, a ≠ 7 → a ≠ 10 → ra_g s1 179 a = ra_g σ 179 a := fun a h7 h10 => ((fun a h7 h10 => hp2o a h7) a h7 h10).trans ((fun _ _ _ => rfl) a h7 h10)
  refine ra_load rfl rfl rfl rfl ?_
  refine ra_load rfl rfl rfl rfl ?_
  refine ra_i2l rfl hx0 ?_
  refine ra_lconst1 rfl ?_
  refine ra_ldc2 (z := 999) rfl lk_8_397 (by decide) ?_
  refine ra_cTp (sp_192 hx0 (by first | omega | (unfold ra_in at *; omega)) (by first | omega | (unfold ra_in at *; omega))) rfl (ct_192 rfl lk_8_63 (Or.inl rfl) (Nat.le_of_ble_eq_true rfl)) ?_
  refine ra_ifneB rfl rfl (fun h10 => ?_) (fun h10 => ?_)
  · refine ra_iconst rfl ?_
    refine ra_iconst rfl ?_
    refine ra_cT (sp_193 (Or.inl rfl) (by first | omega | (unfold ra_in at *; omega))) rfl (ct_193 rfl lk_8_303 (Or.inl rfl) sh_179 (Nat.le_of_ble_eq_true rfl)) (fun s11 hs11 => ?_)
    obtain ⟨hf12, he13⟩ := hs11
    have hF14 := Fr_tr (lo := 179) (hi := 191) hF3 hf12 (by omega)
    have hk15 : s11 (180) = σ (180) := (hf12 (180) (by omega)).trans hk4
    have hk16 : s11 (183) = σ (183) := (hf12 (183) (by omega)).trans hk5
    have hk17 : s11 (184) = σ (184) := (hf12 (184) (by omega)).trans hk6
    have hg18 : ∀ a, a ≠ 5 → a ≠ 7 → a ≠ 10 → ra_g s11 179 a = ra_g σ 179 a := fun a h5 h7 h10 => ((fun a h7 h10 => he13 a h7) a h7 h10).trans (hg7 a h5 h7 h10)
    have ho19 : ∀ a, a ≠ 7 → a ≠ 10 → ra_g s11 179 a = ra_g σ 179 a := fun a h7 h10 => ((fun a h7 h10 => he13 a h7) a h7 h10).trans (ho8 a h7 h10)
    refine ra_ifne rfl rfl (by first | omega | (unfold ra_in at *; omega)) (fun h20 => ?_) (fun h20 => ?_)
    · exact absurd h20 (by decide)
    · refine ra_load rfl rfl rfl rfl ?_
      refine ra_load rfl rfl rfl rfl ?_
      refine ra_cQPp (sp_203 ) rfl (ct_203 rfl lk_8_95 (Or.inl rfl) sh_179 (Nat.le_of_ble_eq_true rfl)) (fun z22 hz22 hz22p => ?_)
      refine ra_ifne rfl rfl (ra_in01 hz22) (fun h23 => ?_) (fun h23 => ?_)
      · refine ra_iconst rfl ?_
        refine ra_iconst rfl ?_
        refine ra_cT (sp_193 (Or.inl rfl) (by first | omega | (unfold ra_in at *; omega))) rfl (ct_193 rfl lk_8_303 (Or.inl rfl) sh_179 (Nat.le_of_ble_eq_true rfl)) (fun s24 hs24 => ?_)
        obtain ⟨hf25, he26⟩ := hs24
        have hF27 := Fr_tr (lo := 179) (hi := 191) hF14 hf25 (by omega)
        have hk28 : s24 (180) = σ (180) := (hf25 (180) (by omega)).trans hk15
        have hk29 : s24 (183) = σ (183) := (hf25 (183) (by omega)).trans hk16
        have hk30 : s24 (184) = σ (184) := (hf25 (184) (by omega)).trans hk17
        have hg31 : ∀ a, a ≠ 5 → a ≠ 7 → a ≠ 10 → ra_g s24 179 a = ra_g σ 179 a := fun a h5 h7 h10 => ((fun a h7 h10 => he26 a h7) a h7 h10).trans (hg18 a h5 h7 h10)
        have ho32 : ∀ a, a ≠ 7 → a ≠ 10 → ra_g s24 179 a = ra_g σ 179 a := fun a h7 h10 => ((fun a h7 h10 => he26 a h7) a h7 h10).trans (ho19 a h7 h10)
        refine ra_ifeq rfl rfl (by first | omega | (unfold ra_in at *; omega)) (fun h33 => ?_) (fun h33 => ?_)
        · refine ra_load rfl rfl rfl rfl ?_
          refine ra_cV (sp_196 (WF_k hk28 hw) (PW_k hpw (ho32 5 (by decide) (by decide)) hk30)) rfl (ct_196 rfl lk_8_366 (Or.inl rfl) sh_179 (Nat.le_of_ble_eq_true rfl)) (fun s34 hs34 => ?_)
          obtain ⟨hf35, hc36, hc37, hc38, hc39, he40, he41⟩ := hs34
          have hF42 := Fr_tr (lo := 179) (hi := 191) hF27 hf35 (by omega)
          have hk43 : s34 (180) = σ (180) := hc36.trans hk28
          have hk44 : s34 (183) = σ (183) := hc39.trans hk29
          have hg45 : ∀ a, a ≠ 5 → a ≠ 7 → a ≠ 10 → ra_g s34 179 a = ra_g σ 179 a := fun a h5 h7 h10 => ((fun a h5 h7 h10 => he40 a h5) a h5 h7 h10).trans (hg31 a h5 h7 h10)
          refine ra_load rfl rfl rfl rfl ?_
          refine ra_load rfl rfl rfl rfl ?_
          refine ra_cI (sp_241 hx0 (WF_k hk43 hw)) rfl (ct_241 rfl lk_8_399 (Or.inl rfl) sh_179 (Nat.le_of_ble_eq_true rfl)) (fun z47 s46  hz47 hs46 => ?_)
          obtain ⟨hf48, he49, he50⟩ := hs46
          have hF51 := Fr_tr (lo := 179) (hi := 191) hF42 hf48 (by omega)
          have hk52 : s46 (183) = σ (183) := (hf48 (183) (by omega)).trans hk44
          have hg53 : ∀ a, a ≠ 5 → a ≠ 7 → a ≠ 10 → ra_g s46 179 a = ra_g σ 179 a := fun a h5 h7 h10 => (ra_gk (hf48 179 (by omega))).trans (hg45 a h5 h7 h10)
          exact ra_ireturn rfl rfl ⟨⟨_, hz47, rfl⟩, ⟨hF51, hk52, hg53, he49, (PW_k he41 (ra_gk (hf48 179 (by omega))) (hf48 184 (by omega)))⟩⟩
        · exact absurd h33 (by decide)
      · refine ra_iconst rfl ?_
        refine ra_goto rfl rfl ?_
        refine ra_iconst rfl ?_
        refine ra_cT (sp_193 (Or.inr rfl) (by first | omega | (unfold ra_in at *; omega))) rfl (ct_193 rfl lk_8_303 (Or.inl rfl) sh_179 (Nat.le_of_ble_eq_true rfl)) (fun s54 hs54 => ?_)
        obtain ⟨hf55, he56⟩ := hs54
        have hF57 := Fr_tr (lo := 179) (hi := 191) hF14 hf55 (by omega)
        have hk58 : s54 (180) = σ (180) := (hf55 (180) (by omega)).trans hk15
        have hk59 : s54 (183) = σ (183) := (hf55 (183) (by omega)).trans hk16
        have hk60 : s54 (184) = σ (184) := (hf55 (184) (by omega)).trans hk17
        have hg61 : ∀ a, a ≠ 5 → a ≠ 7 → a ≠ 10 → ra_g s54 179 a = ra_g σ 179 a := fun a h5 h7 h10 => ((fun a h7 h10 => he56 a h7) a h7 h10).trans (hg18 a h5 h7 h10)
        have ho62 : ∀ a, a ≠ 7 → a ≠ 10 → ra_g s54 179 a = ra_g σ 179 a := fun a h7 h10 => ((fun a h7 h10 => he56 a h7) a h7 h10).trans (ho19 a h7 h10)
        refine ra_ifeq rfl rfl (by first | omega | (unfold ra_in at *; omega)) (fun h63 => ?_) (fun h63 => ?_)
        · exact absurd h63 (by decide)
        · refine ra_iconst rfl ?_
          exact ra_ireturn rfl rfl ⟨⟨_, (by first | omega | (unfold ra_in at *; omega)), rfl⟩, ⟨hF57, hk59, hg61, (WF_k hk58 hw), (PW_k hpw (ho62 5 (by decide) (by decide)) hk60)⟩⟩
  · refine ra_iconst rfl ?_
    refine ra_goto rfl rfl ?_
    refine ra_iconst rfl ?_
    refine ra_cT (sp_193 (Or.inr rfl) (by first | omega | (unfold ra_in at *; omega))) rfl (ct_193 rfl lk_8_303 (Or.inl rfl) sh_179 (Nat.le_of_ble_eq_true rfl)) (fun s64 hs64 => ?_)
    obtain ⟨hf65, he66⟩ := hs64
    have hF67 := Fr_tr (lo := 179) (hi := 191) hF3 hf65 (by omega)
    have hk68 : s64 (180) = σ (180) := (hf65 (180) (by omega)).trans hk4
    have hk69 : s64 (183) = σ (183) := (hf65 (183) (by omega)).trans hk5
    have hk70 : s64 (184) = σ (184) := (hf65 (184) (by omega)).trans hk6
    have hg71 : ∀ a, a ≠ 5 → a ≠ 7 → a ≠ 10 → ra_g s64 179 a = ra_g σ 179 a := fun a h5 h7 h10 => ((fun a h7 h10 => he66 a h7) a h7 h10).trans (hg7 a h5 h7 h10)
    have ho72 : ∀ a, a ≠ 7 → a ≠ 10 → ra_g s64 179 a = ra_g σ 179 a := fun a h7 h10 => ((fun a h7 h10 => he66 a h7) a h7 h10).trans (ho8 a h7 h10)
    refine ra_ifne rfl rfl (by first | omega | (unfold ra_in at *; omega)) (fun h73 => ?_) (fun h73 => ?_)
    · refine ra_iconst rfl ?_
      exact ra_ireturn rfl rfl ⟨⟨_, (by first | omega | (unfold ra_in at *; omega)), rfl⟩, ⟨hF67, hk69, hg71, (WF_k hk68 hw), (PW_k hpw (ho72 5 (by decide) (by decide)) hk70)⟩⟩
    · exact absurd h73 (by decide)
theorem lp_325_20 {n : Nat} {f : Nat → Int32} {d : Nat} {x0 : Int} {σ : ra_V} (hx0 : ra_in x0) (hw : WF σ) : ∀ (nn : Nat) (v2 : Int) (v3 : Int) (s : ra_V) (hv2_0 : ra_in v2) (hv3_0 : 0 ≤ v3) (hv3_1 : v3 ≤ 600) (hF : Fr (179) (187) σ s) (hk0 : s (180) = σ (180)) (hk1 : s (181) = σ (181)) (hk2 : s (182) = σ (182)) (hk3 : s (183) = σ (183)) (hk4 : s (184) = σ (184)) (hoo : ∀ a, a ≠ 7 → a ≠ 10 → ra_g s 179 a = ra_g σ 179 a) (hp : 0 ≤ x0 ∧ x0 < 8 ∧ wq σ x0 0 = 1) (hm : ((ra_g σ 180 0 - v3 : Int)).toNat < nn), ra_P (g_Gs n f) g_sh 0 (d + 5) g_m_X8_copies_ 20 [some (.index (179)), some (ra_I x0), some (ra_I v2), some (ra_I v3), none] [] s (fun r s => rI r ∧ Fr (179) (187) σ s ∧ s (180) = σ (180) ∧ s (181) = σ (181) ∧ s (182) = σ (182) ∧ s (183) = σ (183) ∧ s (184) = σ (184) ∧ (∀ a, a ≠ 7 → a ≠ 10 → ra_g s 179 a = ra_g σ 179 a)) := by
  intro nn
  induction nn with
  | zero => intro v2 v3 s hv2_0 hv3_0 hv3_1 hF hk0 hk1 hk2 hk3 hk4 hoo hp hm; exact absurd hm (Nat.not_lt_zero _)
  | succ nn ih =>
    intro v2 v3 s hv2_0 hv3_0 hv3_1 hF hk0 hk1 hk2 hk3 hk4 hoo hp hm
    have hw0 := WF_a hw
    unfold WFa at hw0
    have hq := WF_p hw hp.1 hp.2.1 hp.2.2
    refine ra_load rfl rfl rfl rfl ?_
    refine ra_load rfl rfl rfl rfl ?_
    refine ra_getR rfl lk_8_7 (Nat.zero_le _) sh_179 rfl ?_
    refine ra_iconst rfl ?_
    refine ra_ialoadJ (j := 0) rfl sh_180 rfl (by decide) rfl (by decide) ?_
    rw [ra_gk hk0]
    have hr22 : ra_in (ra_g σ (180) 0) := (ra_in_g _ _ _)
    refine ra_icge rfl rfl (by first | omega | (unfold ra_in at *; omega)) hr22 (fun h23 => ?_) (fun h23 => ?_)
    · refine ra_load rfl rfl rfl rfl ?_
      exact ra_ireturn rfl rfl ⟨⟨_, (by first | omega | (unfold ra_in at *; omega)), rfl⟩, ⟨hF, hk0, hk1, hk2, hk3, hk4, hoo⟩⟩
    · refine ra_load rfl rfl rfl rfl ?_
      refine ra_getR rfl lk_8_7 (Nat.zero_le _) sh_179 rfl ?_
      refine ra_bipush rfl (by decide) ?_
      refine ra_load rfl rfl rfl rfl ?_
      refine ra_iadd rfl ?_
      refine ra_iaload rfl sh_180 rfl (by decide) (by first | omega | (unfold ra_in at *; omega)) (by first | omega | (unfold ra_in at *; omega)) ?_
      rw [ra_gk hk0]
      have hr24 : ra_in (ra_g σ (180) ((88) + v3).toNat) := (ra_in_g _ _ _)
      refine ra_load rfl rfl rfl rfl ?_
      refine ra_load rfl rfl rfl rfl ?_
      refine ra_iconst rfl ?_
      refine ra_cIp (sp_207 hx0 (by first | omega | (unfold ra_in at *; omega)) (by first | assumption | rfl | omega)) rfl (ct_207 rfl lk_8_75 (Or.inl rfl) sh_179 (Nat.le_of_ble_eq_true rfl)) (fun z26 hz26 => ?_)
      refine ra_isub rfl ?_
      refine ra_gen (fun z27 hz27 => ?_)
      refine ra_store (L' := [_, _, _, _, _]) rfl rfl rfl (Nat.le_of_ble_eq_true rfl) rfl ?_
      refine ra_load rfl rfl rfl rfl ?_
      refine ra_load rfl rfl rfl rfl ?_
      refine ra_i2l rfl hz27 ?_
      refine ra_lconst0 rfl ?_
      refine ra_load rfl rfl rfl rfl ?_
      refine ra_load rfl rfl rfl rfl ?_
      refine ra_iconst rfl ?_
      refine ra_cTp (sp_199 hx0 (by first | omega | (unfold ra_in at *; omega)) (by first | assumption | rfl | omega)) rfl (ct_199 rfl lk_8_67 (Or.inl rfl) sh_179 (Nat.le_of_ble_eq_true rfl)) ?_
      rw [wq_k hk0]
      have hr29 : ra_in (wq σ x0 (2)) := (ra_in_wq _ _ _)
      refine ra_iconst rfl ?_
      refine ra_isub rfl ?_
      refine ra_i2l rfl (by first | omega | (unfold ra_in at *; omega)) ?_
      refine ra_cTp (sp_192 hz27 (by first | omega | (unfold ra_in at *; omega)) (by first | omega | (unfold ra_in at *; omega))) rfl (ct_192 rfl lk_8_63 (Or.inl rfl) (Nat.le_of_ble_eq_true rfl)) ?_
      refine ra_ifeqB rfl rfl (fun h31 => ?_) (fun h31 => ?_)
      · refine ra_iconst rfl ?_
        refine ra_iadd rfl ?_
        refine ra_gen (fun z32 hz32 => ?_)
        refine ra_store (L' := [_, _, _, _, _]) rfl rfl rfl (Nat.le_of_ble_eq_true rfl) rfl ?_
        refine ra_iinc (L' := [_, _, _, _, _]) rfl rfl (Nat.le_of_ble_eq_true rfl) rfl ?_
        refine ra_goto rfl rfl ?_
        exact ra_weak (by repeat' constructor) (ih z32 (v3 + 1) s hz32 (by first | omega | (unfold ra_in at *; omega)) (by first | omega | (unfold ra_in at *; omega)) hF hk0 hk1 hk2 hk3 hk4 hoo hp (by first | omega | (unfold ra_in at *; omega)))
      · refine ra_load rfl rfl rfl rfl ?_
        refine ra_load rfl rfl rfl rfl ?_
        refine ra_load rfl rfl rfl rfl ?_
        refine ra_cIPp (sp_242 hx0 hz27 (WF_k hk0 hw) (by first | assumption | (rw [wq_k hk0]; omega)) (by rw [wq_k hk0]; omega)) rfl (ct_242 rfl lk_8_324 (Or.inl rfl) sh_179 (Nat.le_of_ble_eq_true rfl)) (fun z34 hz34 hz34p => ?_)
        refine ra_load rfl rfl rfl rfl ?_
        refine ra_iceq rfl rfl hz34 (by first | omega | (unfold ra_in at *; omega)) (fun h35 => ?_) (fun h35 => ?_)
        · refine ra_iconst rfl ?_
          refine ra_iadd rfl ?_
          refine ra_gen (fun z36 hz36 => ?_)
          refine ra_store (L' := [_, _, _, _, _]) rfl rfl rfl (Nat.le_of_ble_eq_true rfl) rfl ?_
          refine ra_iinc (L' := [_, _, _, _, _]) rfl rfl (Nat.le_of_ble_eq_true rfl) rfl ?_
          refine ra_goto rfl rfl ?_
          exact ra_weak (by repeat' constructor) (ih z36 (v3 + 1) s hz36 (by first | omega | (unfold ra_in at *; omega)) (by first | omega | (unfold ra_in at *; omega)) hF hk0 hk1 hk2 hk3 hk4 hoo hp (by first | omega | (unfold ra_in at *; omega)))
        · refine ra_iconst rfl ?_
          refine ra_goto rfl rfl ?_
          refine ra_iadd rfl ?_
          refine ra_gen (fun z37 hz37 => ?_)
          refine ra_store (L' := [_, _, _, _, _]) rfl rfl rfl (Nat.le_of_ble_eq_true rfl) rfl ?_
          refine ra_iinc (L' := [_, _, _, _, _]) rfl rfl (Nat.le_of_ble_eq_true rfl) rfl ?_
          refine ra_goto rfl rfl ?_
          exact ra_weak (by repeat' constructor) (ih z37 (v3 + 1) s hz37 (by first | omega | (unfold ra_in at *; omega)) (by first | omega | (unfold ra_in at *; omega)) hF hk0 hk1 hk2 hk3 hk4 hoo hp (by first | omega | (unfold ra_in at *; omega)))
theorem sp_325 {n : Nat} {f : Nat → Int32} {d : Nat} {x0 : Int} {σ : ra_V} (hx0 : ra_in x0) (hw : WF σ) : ra_C (g_Gs n f) g_sh 0 (d + 6) 325 [.index (179), ra_I x0] σ (fun r s => rI r ∧ Fr (179) (187) σ s ∧ s (180) = σ (180) ∧ s (181) = σ (181) ∧ s (182) = σ (182) ∧ s (183) = σ (183) ∧ s (184) = σ (184) ∧ (∀ a, a ≠ 7 → a ≠ 10 → ra_g s 179 a = ra_g σ 179 a)) := by
  refine ra_enter (nn := 3) mt_325 rfl (Nat.le_of_ble_eq_true rfl) rfl (fun h => absurd h (by decide +kernel)) ?_
  have hw0 := WF_a hw
  unfold WFa at hw0
  refine ra_load rfl rfl rfl rfl ?_
  refine ra_iconst rfl ?_
  refine ra_putI rfl lk_8_51 (Nat.zero_le _) sh_179 rfl rfl ?_
  refine ra_newU (by first | omega | (unfold ra_in at *; omega)) (fun s1 hs1 hp2 hp2o => ?_)
  have hp2_99 := hp2o 99 (by decide)
  have hF3 := Fr_tr (lo := 179) (hi := 187) Fr_rf hs1 (by omega)
  have hk4 : s1 (180) = σ (180) := (hs1 (180) (by omega))
  have hk5 : s1 (181) = σ (181) := (hs1 (181) (by omega))
  have hk6 : s1 (182) = σ (182) := (hs1 (182) (by omega))
  have hk7 : s1 (183) = σ (183) := (hs1 (183) (by omega))
  have hk8 : s1 (184) = σ (184) := (hs1 (184) (by omega))
  have ho9 : ∀ a, a ≠ 7 → a ≠ 10 → ra_g s1 179 a = ra_g σ 179 a := fun a h7 h10 => ((fun a h7 h10 => hp2o a h7) a h7 h10).trans ((fun _ _ _ => rfl) a h7 h10)
  refine ra_load rfl rfl rfl rfl ?_
  refine ra_load rfl rfl rfl rfl ?_
  refine ra_iconst rfl ?_
  refine ra_cQP (sp_267 hx0 (by first | omega | (unfold ra_in at *; omega))) rfl (ct_267 rfl lk_8_318 (Or.inl rfl) sh_179 (Nat.le_of_ble_eq_true rfl)) (fun z11 s10 hz11 hz11p hs10 => ?_)
  rw [wq_k hk4] at hz11p
  obtain ⟨hf12, he13⟩ := hs10
  have hF14 := Fr_tr (lo := 179) (hi := 187) hF3 hf12 (by omega)
  have hk15 : s10 (180) = σ (180) := (hf12 (180) (by omega)).trans hk4
  have hk16 : s10 (181) = σ (181) := (hf12 (181) (by omega)).trans hk5
  have hk17 : s10 (182) = σ (182) := (hf12 (182) (by omega)).trans hk6
  have hk18 : s10 (183) = σ (183) := (hf12 (183) (by omega)).trans hk7
  have hk19 : s10 (184) = σ (184) := (hf12 (184) (by omega)).trans hk8
  have ho20 : ∀ a, a ≠ 7 → a ≠ 10 → ra_g s10 179 a = ra_g σ 179 a := fun a h7 h10 => ((fun a h7 h10 => he13 a h7) a h7 h10).trans (ho9 a h7 h10)
  refine ra_ifeq rfl rfl (ra_in01 hz11) (fun h21 => ?_) (fun h21 => ?_)
  · have hp := hz11p (by omega)
    have hq := WF_p hw hp.1 hp.2.1 hp.2.2
    refine ra_iconst rfl ?_
    refine ra_store (L' := [_, _, _, _, _]) rfl rfl rfl (Nat.le_of_ble_eq_true rfl) rfl ?_
    refine ra_iconst rfl ?_
    refine ra_store (L' := [_, _, _, _, _]) rfl rfl rfl (Nat.le_of_ble_eq_true rfl) rfl ?_
    exact ra_weak (by repeat' constructor) (lp_325_20 hx0 hw _ (0) (0) s10 (by first | omega | (unfold ra_in at *; omega)) (by first | omega | (unfold ra_in at *; omega)) (by first | omega | (unfold ra_in at *; omega)) hF14 hk15 hk16 hk17 hk18 hk19 ho20 hp (Nat.lt_succ_self _))
  · refine ra_iconst rfl ?_
    exact ra_ireturn rfl rfl ⟨⟨_, (by first | omega | (unfold ra_in at *; omega)), rfl⟩, ⟨hF14, hk15, hk16, hk17, hk18, hk19, ho20⟩⟩
end RB
