section
/-! the reference: what its methods do (printed by wip/gen/ref.py) -/
section RB
theorem lp_329_33 {n : Nat} {f : Nat → Int32} {d : Nat}  {σ : ra_V} (hw : WF σ) : ∀ (nn : Nat) (v1 : Int) (v2 : Int) (v3 : Int) (s : ra_V) (hv1_0 : 0 ≤ v1 ∧ v1 ≤ 8) (hv2_0 : ra_in v2) (hv3_0 : 0 ≤ v3) (hv3_1 : v3 ≤ v1) (hF : Fr (180) (190) σ s) (hk0 : s (181) = σ (181)) (hk1 : s (182) = σ (182)) (hk2 : s (183) = σ (183)) (hk3 : s (184) = σ (184)) (hk4 : s (187) = σ (187)) (hws : WF s) (hex : ∀ p, 0 ≤ p → p < 8 → wq s p 0 = wq σ p 0) (hln : ∀ k : Nat, (k : Int) < v1 → 0 ≤ ra_g s 189 k ∧ ra_g s 189 k < 8 ∧ wq σ (ra_g s 189 k) 0 = 1) (hm : ((v1 - v3 : Int)).toNat < nn), ra_P (g_Gs n f) g_sh 0 (d + 10) g_m_X8_compacts 33 [some (.index (179)), some (ra_I v1), some (ra_I v2), some (ra_I v3), none] [] s (fun r s => rI r ∧ Fr (180) (190) σ s ∧ s (181) = σ (181) ∧ s (182) = σ (182) ∧ s (183) = σ (183) ∧ s (184) = σ (184) ∧ s (187) = σ (187) ∧ WF s) := by
  intro nn
  induction nn with
  | zero => intro v1 v2 v3 s hv1_0 hv2_0 hv3_0 hv3_1 hF hk0 hk1 hk2 hk3 hk4 hws hex hln hm; exact absurd hm (Nat.not_lt_zero _)
  | succ nn ih =>
    intro v1 v2 v3 s hv1_0 hv2_0 hv3_0 hv3_1 hF hk0 hk1 hk2 hk3 hk4 hws hex hln hm
    have hw1 := WF_a hws
    unfold WFa at hw1
    refine ra_load rfl rfl rfl rfl ?_
    refine ra_load rfl rfl rfl rfl ?_
    refine ra_icge rfl rfl (by first | omega | (unfold ra_in at *; omega)) (by first | omega | (unfold ra_in at *; omega)) (fun h4 => ?_) (fun h4 => ?_)
    · refine ra_load rfl rfl rfl rfl ?_
      exact ra_ireturn rfl rfl ⟨⟨_, (by first | omega | (unfold ra_in at *; omega)), rfl⟩, ⟨hF, hk0, hk1, hk2, hk3, hk4, hws⟩⟩
    · refine ra_load rfl rfl rfl rfl ?_
      refine ra_load rfl rfl rfl rfl ?_
      refine ra_getR rfl lk_8_41 (Nat.zero_le _) sh_179 rfl ?_
      refine ra_load rfl rfl rfl rfl ?_
      refine ra_iaload rfl sh_189 rfl (by decide) (by first | omega | (unfold ra_in at *; omega)) (by first | omega | (unfold ra_in at *; omega)) ?_
      have hr5 : ra_in (ra_g s (189) v3.toNat) := (ra_in_g _ _ _)
      refine ra_cIPp (sp_244 hr5 hws (lnp_ hln hex v3 (by omega))) rfl (ct_244 rfl lk_8_404 (Or.inl rfl) sh_179 (Nat.le_of_ble_eq_true rfl)) (fun z7 hz7 hz7p => ?_)
      refine ra_store (L' := [_, _, _, _, _]) rfl rfl rfl (Nat.le_of_ble_eq_true rfl) rfl ?_
      refine ra_load rfl rfl rfl rfl ?_
      refine ra_iconst rfl ?_
      refine ra_icne rfl rfl hz7 (by first | omega | (unfold ra_in at *; omega)) (fun h8 => ?_) (fun h8 => ?_)
      · refine ra_load rfl rfl rfl rfl ?_
        refine ra_load rfl rfl rfl rfl ?_
        refine ra_getR rfl lk_8_41 (Nat.zero_le _) sh_179 rfl ?_
        refine ra_load rfl rfl rfl rfl ?_
        refine ra_iaload rfl sh_189 rfl (by decide) (by first | omega | (unfold ra_in at *; omega)) (by first | omega | (unfold ra_in at *; omega)) ?_
        have hr9 : ra_in (ra_g s (189) v3.toNat) := (ra_in_g _ _ _)
        refine ra_load rfl rfl rfl rfl ?_
        refine ra_cV (sp_240 hr9 hz7 hws (lnp_ hln hex v3 (by omega)) (mok_of hz7p (by omega))) rfl (ct_240 rfl lk_8_391 (Or.inl rfl) sh_179 (Nat.le_of_ble_eq_true rfl)) (fun s10 hs10 => ?_)
        obtain ⟨hf11, he12, he13, he14⟩ := hs10
        have hF15 := Fr_tr (lo := 180) (hi := 190) hF hf11 (by omega)
        have hk16 : s10 (181) = σ (181) := (hf11 (181) (by omega)).trans hk0
        have hk17 : s10 (182) = σ (182) := (hf11 (182) (by omega)).trans hk1
        have hk18 : s10 (183) = σ (183) := (hf11 (183) (by omega)).trans hk2
        have hk19 : s10 (184) = σ (184) := (hf11 (184) (by omega)).trans hk3
        have hk20 : s10 (187) = σ (187) := (hf11 (187) (by omega)).trans hk4
        refine ra_load rfl rfl rfl rfl ?_
        refine ra_load rfl rfl rfl rfl ?_
        refine ra_load rfl rfl rfl rfl ?_
        refine ra_cIp (sp_235 (MV_f he12 (by have := he13; have a := hln v3.toNat (by omega); omega))) rfl (ct_235 rfl lk_8_394 (Or.inl rfl) sh_179 (Nat.le_of_ble_eq_true rfl)) (fun z22 hz22 => ?_)
        refine ra_cI (sp_242 hz22 he12) rfl (ct_242 rfl lk_8_399 (Or.inl rfl) sh_179 (Nat.le_of_ble_eq_true rfl)) (fun z24 s23  hz24 hs23 => ?_)
        obtain ⟨hf25, he26, he27⟩ := hs23
        have hF28 := Fr_tr (lo := 180) (hi := 190) hF15 hf25 (by omega)
        have hk29 : s23 (181) = σ (181) := (hf25 (181) (by omega)).trans hk16
        have hk30 : s23 (182) = σ (182) := (hf25 (182) (by omega)).trans hk17
        have hk31 : s23 (183) = σ (183) := (hf25 (183) (by omega)).trans hk18
        have hk32 : s23 (184) = σ (184) := (hf25 (184) (by omega)).trans hk19
        have hk33 : s23 (187) = σ (187) := (hf25 (187) (by omega)).trans hk20
        refine ra_ifle rfl rfl hz24 (fun h34 => ?_) (fun h34 => ?_)
        · refine ra_iconst rfl ?_
          refine ra_iadd rfl ?_
          refine ra_gen (fun z35 hz35 => ?_)
          refine ra_store (L' := [_, _, _, _, _]) rfl rfl rfl (Nat.le_of_ble_eq_true rfl) rfl ?_
          refine ra_iinc (L' := [_, _, _, _, _]) rfl rfl (Nat.le_of_ble_eq_true rfl) rfl ?_
          refine ra_goto rfl rfl ?_
          exact ra_weak (by repeat' constructor) (ih v1 z35 (v3 + 1) s23 (by first | omega | (unfold ra_in at *; omega)) hz35 (by first | omega | (unfold ra_in at *; omega)) (by first | omega | (unfold ra_in at *; omega)) hF28 hk29 hk30 hk31 hk32 hk33 he26 (fun p p0 p1 => ((he27 p p0 p1).trans ((he14 p p0 p1).trans (hex p p0 p1)))) (ln_k ((hf25 189 (by omega)).trans (hf11 189 (by omega))) hln) (by first | omega | (unfold ra_in at *; omega)))
        · refine ra_iconst rfl ?_
          refine ra_goto rfl rfl ?_
          refine ra_iadd rfl ?_
          refine ra_gen (fun z36 hz36 => ?_)
          refine ra_store (L' := [_, _, _, _, _]) rfl rfl rfl (Nat.le_of_ble_eq_true rfl) rfl ?_
          refine ra_iinc (L' := [_, _, _, _, _]) rfl rfl (Nat.le_of_ble_eq_true rfl) rfl ?_
          refine ra_goto rfl rfl ?_
          exact ra_weak (by repeat' constructor) (ih v1 z36 (v3 + 1) s23 (by first | omega | (unfold ra_in at *; omega)) hz36 (by first | omega | (unfold ra_in at *; omega)) (by first | omega | (unfold ra_in at *; omega)) hF28 hk29 hk30 hk31 hk32 hk33 he26 (fun p p0 p1 => ((he27 p p0 p1).trans ((he14 p p0 p1).trans (hex p p0 p1)))) (ln_k ((hf25 189 (by omega)).trans (hf11 189 (by omega))) hln) (by first | omega | (unfold ra_in at *; omega)))
      · refine ra_goto rfl rfl ?_
        refine ra_iinc (L' := [_, _, _, _, _]) rfl rfl (Nat.le_of_ble_eq_true rfl) rfl ?_
        refine ra_goto rfl rfl ?_
        exact ra_weak (by repeat' constructor) (ih v1 v2 (v3 + 1) s (by first | omega | (unfold ra_in at *; omega)) (by first | omega | (unfold ra_in at *; omega)) (by first | omega | (unfold ra_in at *; omega)) (by first | omega | (unfold ra_in at *; omega)) hF hk0 hk1 hk2 hk3 hk4 hws (fun p p0 p1 => (hex p p0 p1)) hln (by first | omega | (unfold ra_in at *; omega)))
theorem lp_329_9 {n : Nat} {f : Nat → Int32} {d : Nat}  {σ : ra_V} (hw : WF σ) : ∀ (nn : Nat) (v1 : Int) (v3 : Int) (s : ra_V) (hv1_0 : v1 = ct σ (-1)) (hv1_1 : 0 ≤ v1 ∧ v1 ≤ 8) (hv3_0 : 0 ≤ v3) (hv3_1 : v3 ≤ v1) (hF : Fr (180) (190) σ s) (hk0 : s (180) = σ (180)) (hk1 : s (181) = σ (181)) (hk2 : s (182) = σ (182)) (hk3 : s (183) = σ (183)) (hk4 : s (184) = σ (184)) (hk5 : s (187) = σ (187)) (hln : ∀ k : Nat, (k : Int) < v3 → 0 ≤ ra_g s 189 k ∧ ra_g s 189 k < 8 ∧ wq σ (ra_g s 189 k) 0 = 1) (hm : ((v1 - v3 : Int)).toNat < nn), ra_P (g_Gs n f) g_sh 0 (d + 10) g_m_X8_compacts 9 [some (.index (179)), some (ra_I v1), some (ra_I (0)), some (ra_I v3), none] [] s (fun r s => rI r ∧ Fr (180) (190) σ s ∧ s (181) = σ (181) ∧ s (182) = σ (182) ∧ s (183) = σ (183) ∧ s (184) = σ (184) ∧ s (187) = σ (187) ∧ WF s) := by
  intro nn
  induction nn with
  | zero => intro v1 v3 s hv1_0 hv1_1 hv3_0 hv3_1 hF hk0 hk1 hk2 hk3 hk4 hk5 hln hm; exact absurd hm (Nat.not_lt_zero _)
  | succ nn ih =>
    intro v1 v3 s hv1_0 hv1_1 hv3_0 hv3_1 hF hk0 hk1 hk2 hk3 hk4 hk5 hln hm
    refine ra_load rfl rfl rfl rfl ?_
    refine ra_load rfl rfl rfl rfl ?_
    refine ra_icge rfl rfl (by first | omega | (unfold ra_in at *; omega)) (by first | omega | (unfold ra_in at *; omega)) (fun h3 => ?_) (fun h3 => ?_)
    · refine ra_iconst rfl ?_
      refine ra_store (L' := [_, _, _, _, _]) rfl rfl rfl (Nat.le_of_ble_eq_true rfl) rfl ?_
      exact ra_weak (by repeat' constructor) (lp_329_33 hw _ v1 (0) (0) s (by first | omega | (unfold ra_in at *; omega)) (by first | omega | (unfold ra_in at *; omega)) (by first | omega | (unfold ra_in at *; omega)) (by first | omega | (unfold ra_in at *; omega)) hF hk1 hk2 hk3 hk4 hk5 (WF_k hk0 hw) (fun p p0 p1 => wq_k hk0) (fun k hk => hln k (by omega)) (Nat.lt_succ_self _))
    · refine ra_load rfl rfl rfl rfl ?_
      refine ra_getR rfl lk_8_41 (Nat.zero_le _) sh_179 rfl ?_
      refine ra_load rfl rfl rfl rfl ?_
      refine ra_load rfl rfl rfl rfl ?_
      refine ra_load rfl rfl rfl rfl ?_
      refine ra_cIPp (sq_279 (by first | omega | (unfold ra_in at *; omega)) (WF_k hk0 hw) (by rw [ct_k hk0]; omega)) rfl (ct_279 rfl lk_8_336 (Or.inl rfl) sh_179 (Nat.le_of_ble_eq_true rfl)) (fun z38 hz38 hz38p => ?_)
      have lnx := sta_k hk0 hz38p
      refine ra_iastore rfl sh_189 rfl (by decide) (by first | omega | (unfold ra_in at *; omega)) (by first | omega | (unfold ra_in at *; omega)) ?_
      refine ra_newR hz38 (fun s39 hs39 hs39v hs39o => ?_)
      have hF40 := Fr_tr (lo := 180) (hi := 190) hF hs39 (by omega)
      have hk41 : s39 (180) = σ (180) := (hs39 (180) (by omega)).trans hk0
      have hk42 : s39 (181) = σ (181) := (hs39 (181) (by omega)).trans hk1
      have hk43 : s39 (182) = σ (182) := (hs39 (182) (by omega)).trans hk2
      have hk44 : s39 (183) = σ (183) := (hs39 (183) (by omega)).trans hk3
      have hk45 : s39 (184) = σ (184) := (hs39 (184) (by omega)).trans hk4
      have hk46 : s39 (187) = σ (187) := (hs39 (187) (by omega)).trans hk5
      refine ra_iinc (L' := [_, _, _, _, _]) rfl rfl (Nat.le_of_ble_eq_true rfl) rfl ?_
      refine ra_goto rfl rfl ?_
      exact ra_weak (by repeat' constructor) (ih v1 (v3 + 1) s39 (by first | omega | (unfold ra_in at *; omega)) (by first | omega | (unfold ra_in at *; omega)) (by first | omega | (unfold ra_in at *; omega)) (by first | omega | (unfold ra_in at *; omega)) hF40 hk41 hk42 hk43 hk44 hk45 hk46 (fun k hk => if e : k = v3.toNat then (by rw [e, hs39v]; exact lnx) else (by rw [hs39o k e]; exact hln k (by omega))) (by first | omega | (unfold ra_in at *; omega)))
theorem sp_329 {n : Nat} {f : Nat → Int32} {d : Nat}  {σ : ra_V} (hw : WF σ) : ra_C (g_Gs n f) g_sh 0 (d + 11) 329 [.index (179)] σ (fun r s => rI r ∧ Fr (180) (190) σ s ∧ s (181) = σ (181) ∧ s (182) = σ (182) ∧ s (183) = σ (183) ∧ s (184) = σ (184) ∧ s (187) = σ (187) ∧ WF s) := by
  refine ra_enter (nn := 4) mt_329 rfl (Nat.le_of_ble_eq_true rfl) rfl (fun h => absurd h (by decide +kernel)) ?_
  have hw0 := WF_a hw
  unfold WFa at hw0
  have hcb := ct_b (σ := σ) (c := -1)
  refine ra_load rfl rfl rfl rfl ?_
  refine ra_cIPp (sq_203 (WF_k rfl hw)) rfl (ct_203 rfl lk_8_298 (Or.inl rfl) sh_179 (Nat.le_of_ble_eq_true rfl)) (fun z2 hz2 hz2p => ?_)
  refine ra_store (L' := [_, _, _, _, _]) rfl rfl rfl (Nat.le_of_ble_eq_true rfl) rfl ?_
  refine ra_iconst rfl ?_
  refine ra_store (L' := [_, _, _, _, _]) rfl rfl rfl (Nat.le_of_ble_eq_true rfl) rfl ?_
  refine ra_iconst rfl ?_
  refine ra_store (L' := [_, _, _, _, _]) rfl rfl rfl (Nat.le_of_ble_eq_true rfl) rfl ?_
  exact ra_weak (by repeat' constructor) (lp_329_9 hw _ z2 (0) σ (by first | omega | (unfold ra_in at *; omega)) (by first | omega | (unfold ra_in at *; omega)) (by first | omega | (unfold ra_in at *; omega)) (by first | omega | (unfold ra_in at *; omega)) Fr_rf rfl rfl rfl rfl rfl rfl (fun k hk => by omega) (Nat.lt_succ_self _))
theorem sp_330 {n : Nat} {f : Nat → Int32} {d : Nat}  {σ : ra_V} (hw : WF σ) (hpw : PW σ) : ra_C (g_Gs n f) g_sh 0 (d + 12) 330 [.index (179)] σ (fun r s => rI r ∧ Fr (179) (191) σ s ∧ s (183) = σ (183) ∧ s (187) = σ (187) ∧ (∀ a, a ≠ 5 → a ≠ 7 → a ≠ 10 → ra_g s 179 a = ra_g σ 179 a) ∧ WF s ∧ PW s) := by
  refine ra_enter (nn := 0) mt_330 rfl (Nat.le_of_ble_eq_true rfl) rfl (fun h => absurd h (by decide +kernel)) ?_
  have hw0 := WF_a hw
  unfold WFa at hw0
  refine ra_load rfl rfl rfl rfl ?_
  refine ra_iconst rfl ?_
  refine ra_putI rfl lk_8_51 (Nat.zero_le _) sh_179 rfl rfl ?_
  refine ra_newU (by first | omega | (unfold ra_in at *; omega)) (fun s1 hs1 hp2 hp2o => ?_)
  have hp2_99 := hp2o 99 (by decide)
  have hF3 := Fr_tr (lo := 179) (hi := 191) Fr_rf hs1 (by omega)
  have hk4 : s1 (180) = σ (180) := (hs1 (180) (by omega))
  have hk5 : s1 (183) = σ (183) := (hs1 (183) (by omega))
  have hk6 : s1 (184) = σ (184) := (hs1 (184) (by omega))
  have hk7 : s1 (187) = σ (187) := (hs1 (187) (by omega))
  have hg8 : ∀ a, a ≠ 5 → a ≠ 7 → a ≠ 10 → ra_g s1 179 a = ra_g σ 179 a := fun a h5 h7 h10 => ((fun a h7 h10 => hp2o a h7) a h7 h10).trans ((fun _ _ _ _ => rfl) a h5 h7 h10)
  have ho9 : ∀ a, a ≠ 7 → a ≠ 10 → ra_g s1 179 a = ra_g σ 179 a := fun a h7 h10 => ((fun a h7 h10 => hp2o a h7) a h7 h10).trans ((fun _ _ _ => rfl) a h7 h10)
  refine ra_load rfl rfl rfl rfl ?_
  refine ra_load rfl rfl rfl rfl ?_
  refine ra_cQPp (sp_204 ) rfl (ct_204 rfl lk_8_95 (Or.inl rfl) sh_179 (Nat.le_of_ble_eq_true rfl)) (fun z11 hz11 hz11p => ?_)
  refine ra_iconst rfl ?_
  refine ra_cT (sp_194 hz11 (by first | omega | (unfold ra_in at *; omega))) rfl (ct_194 rfl lk_8_303 (Or.inl rfl) sh_179 (Nat.le_of_ble_eq_true rfl)) (fun s12 hs12 => ?_)
  obtain ⟨hf13, he14⟩ := hs12
  have hF15 := Fr_tr (lo := 179) (hi := 191) hF3 hf13 (by omega)
  have hk16 : s12 (180) = σ (180) := (hf13 (180) (by omega)).trans hk4
  have hk17 : s12 (183) = σ (183) := (hf13 (183) (by omega)).trans hk5
  have hk18 : s12 (184) = σ (184) := (hf13 (184) (by omega)).trans hk6
  have hk19 : s12 (187) = σ (187) := (hf13 (187) (by omega)).trans hk7
  have hg20 : ∀ a, a ≠ 5 → a ≠ 7 → a ≠ 10 → ra_g s12 179 a = ra_g σ 179 a := fun a h5 h7 h10 => ((fun a h7 h10 => he14 a h7) a h7 h10).trans (hg8 a h5 h7 h10)
  have ho21 : ∀ a, a ≠ 7 → a ≠ 10 → ra_g s12 179 a = ra_g σ 179 a := fun a h7 h10 => ((fun a h7 h10 => he14 a h7) a h7 h10).trans (ho9 a h7 h10)
  refine ra_ifeq rfl rfl (ra_in01 hz11) (fun h22 => ?_) (fun h22 => ?_)
  · refine ra_load rfl rfl rfl rfl ?_
    refine ra_cV (sp_197 (WF_k hk16 hw) (PW_k hpw (ho21 5 (by decide) (by decide)) hk18)) rfl (ct_197 rfl lk_8_366 (Or.inl rfl) sh_179 (Nat.le_of_ble_eq_true rfl)) (fun s23 hs23 => ?_)
    obtain ⟨hf24, hc25, hc26, hc27, hc28, he29, he30⟩ := hs23
    have hF31 := Fr_tr (lo := 179) (hi := 191) hF15 hf24 (by omega)
    have hk32 : s23 (180) = σ (180) := hc25.trans hk16
    have hk33 : s23 (183) = σ (183) := hc28.trans hk17
    have hk34 : s23 (187) = σ (187) := (hf24 (187) (by omega)).trans hk19
    have hg35 : ∀ a, a ≠ 5 → a ≠ 7 → a ≠ 10 → ra_g s23 179 a = ra_g σ 179 a := fun a h5 h7 h10 => ((fun a h5 h7 h10 => he29 a h5) a h5 h7 h10).trans (hg20 a h5 h7 h10)
    refine ra_load rfl rfl rfl rfl ?_
    refine ra_cI (sp_329 (WF_k hk32 hw)) rfl (ct_329 rfl lk_8_410 (Or.inl rfl) sh_179 (Nat.le_of_ble_eq_true rfl)) (fun z37 s36  hz37 hs36 => ?_)
    obtain ⟨hf38, hc39, hc40, hc41, hc42, hc43, he44⟩ := hs36
    have hF45 := Fr_tr (lo := 179) (hi := 191) hF31 hf38 (by omega)
    have hk46 : s36 (183) = σ (183) := hc41.trans hk33
    have hk47 : s36 (187) = σ (187) := hc43.trans hk34
    have hg48 : ∀ a, a ≠ 5 → a ≠ 7 → a ≠ 10 → ra_g s36 179 a = ra_g σ 179 a := fun a h5 h7 h10 => (ra_gk (hf38 179 (by omega))).trans (hg35 a h5 h7 h10)
    exact ra_ireturn rfl rfl ⟨⟨_, hz37, rfl⟩, ⟨hF45, hk46, hk47, hg48, he44, (PW_k he30 (ra_gk (hf38 179 (by omega))) hc42)⟩⟩
  · refine ra_iconst rfl ?_
    exact ra_ireturn rfl rfl ⟨⟨_, (by first | omega | (unfold ra_in at *; omega)), rfl⟩, ⟨hF15, hk17, hk19, hg20, (WF_k hk16 hw), (PW_k hpw (ho21 5 (by decide) (by decide)) hk18)⟩⟩
theorem sp_331 {n : Nat} {f : Nat → Int32} {d : Nat}  {σ : ra_V} (hw : WF σ) (hpw : PW σ) : ra_C (g_Gs n f) g_sh 0 (d + 12) 331 [.index (179)] σ (fun r s => rI r ∧ Fr (179) (191) σ s ∧ s (183) = σ (183) ∧ s (187) = σ (187) ∧ (∀ a, a ≠ 5 → a ≠ 7 → a ≠ 10 → ra_g s 179 a = ra_g σ 179 a) ∧ WF s ∧ PW s) := by
  refine ra_enter (nn := 3) mt_331 rfl (Nat.le_of_ble_eq_true rfl) rfl (fun h => absurd h (by decide +kernel)) ?_
  have hw0 := WF_a hw
  unfold WFa at hw0
  refine ra_load rfl rfl rfl rfl ?_
  refine ra_iconst rfl ?_
  refine ra_putI rfl lk_8_51 (Nat.zero_le _) sh_179 rfl rfl ?_
  refine ra_newU (by first | omega | (unfold ra_in at *; omega)) (fun s1 hs1 hp2 hp2o => ?_)
  have hp2_99 := hp2o 99 (by decide)
  have hF3 := Fr_tr (lo := 179) (hi := 191) Fr_rf hs1 (by omega)
  have hk4 : s1 (180) = σ (180) := (hs1 (180) (by omega))
  have hk5 : s1 (183) = σ (183) := (hs1 (183) (by omega))
  have hk6 : s1 (184) = σ (184) := (hs1 (184) (by omega))
  have hk7 : s1 (187) = σ (187) := (hs1 (187) (by omega))
  have hg8 : ∀ a, a ≠ 5 → a ≠ 7 → a ≠ 10 → ra_g s1 179 a = ra_g σ 179 a := fun a h5 h7 h10 => ((fun a h7 h10 => hp2o a h7) a h7 h10).trans ((fun _ _ _ _ => rfl) a h5 h7 h10)
  have ho9 : ∀ a, a ≠ 7 → a ≠ 10 → ra_g s1 179 a = ra_g σ 179 a := fun a h7 h10 => ((fun a h7 h10 => hp2o a h7) a h7 h10).trans ((fun _ _ _ => rfl) a h7 h10)
  refine ra_load rfl rfl rfl rfl ?_
  refine ra_cQPp (sp_204 ) rfl (ct_204 rfl lk_8_95 (Or.inl rfl) sh_179 (Nat.le_of_ble_eq_true rfl)) (fun z11 hz11 hz11p => ?_)
  refine ra_ifeq rfl rfl (ra_in01 hz11) (fun h12 => ?_) (fun h12 => ?_)
  · refine ra_load rfl rfl rfl rfl ?_
    refine ra_cV (sp_198 ) rfl (ct_198 rfl lk_8_413 (Or.inl rfl) sh_179 (Nat.le_of_ble_eq_true rfl)) (fun s13 hs13 => ?_)
    obtain ⟨hf14, he15⟩ := hs13
    have hF16 := Fr_tr (lo := 179) (hi := 191) hF3 hf14 (by omega)
    have hk17 : s13 (180) = σ (180) := (hf14 (180) (by omega)).trans hk4
    have hk18 : s13 (183) = σ (183) := (hf14 (183) (by omega)).trans hk5
    have hk19 : s13 (184) = σ (184) := (hf14 (184) (by omega)).trans hk6
    have hk20 : s13 (187) = σ (187) := (hf14 (187) (by omega)).trans hk7
    have hk21 : s13 (179) = s1 (179) := (hf14 (179) (by omega))
    have hg22 : ∀ a, a ≠ 5 → a ≠ 7 → a ≠ 10 → ra_g s13 179 a = ra_g σ 179 a := fun a h5 h7 h10 => (ra_gk (hf14 179 (by omega))).trans (hg8 a h5 h7 h10)
    have ho23 : ∀ a, a ≠ 7 → a ≠ 10 → ra_g s13 179 a = ra_g σ 179 a := fun a h7 h10 => (ra_gk (hf14 179 (by omega))).trans (ho9 a h7 h10)
    refine ra_load rfl rfl rfl rfl ?_
    refine ra_getR rfl lk_8_7 (Nat.zero_le _) sh_179 rfl ?_
    refine ra_bipush rfl (by decide) ?_
    refine ra_ialoadJ (j := 6) rfl sh_180 rfl (by decide) rfl (by decide) ?_
    rw [ra_gk hk17]
    have hr24 : ra_in (ra_g σ (180) 6) := (ra_in_g _ _ _)
    refine ra_store (L' := [_, _, _, _]) rfl rfl rfl (Nat.le_of_ble_eq_true rfl) rfl ?_
    refine ra_load rfl rfl rfl rfl ?_
    refine ra_cI (sp_329 (WF_k hk17 hw)) rfl (ct_329 rfl lk_8_410 (Or.inl rfl) sh_179 (Nat.le_of_ble_eq_true rfl)) (fun z26 s25  hz26 hs25 => ?_)
    obtain ⟨hf27, hc28, hc29, hc30, hc31, hc32, he33⟩ := hs25
    have hF34 := Fr_tr (lo := 179) (hi := 191) hF16 hf27 (by omega)
    have hk35 : s25 (183) = σ (183) := hc30.trans hk18
    have hk36 : s25 (184) = σ (184) := hc31.trans hk19
    have hk37 : s25 (187) = σ (187) := hc32.trans hk20
    have hk38 : s25 (179) = s1 (179) := (hf27 (179) (by omega)).trans hk21
    have hg39 : ∀ a, a ≠ 5 → a ≠ 7 → a ≠ 10 → ra_g s25 179 a = ra_g σ 179 a := fun a h5 h7 h10 => (ra_gk (hf27 179 (by omega))).trans (hg22 a h5 h7 h10)
    have ho40 : ∀ a, a ≠ 7 → a ≠ 10 → ra_g s25 179 a = ra_g σ 179 a := fun a h7 h10 => (ra_gk (hf27 179 (by omega))).trans (ho23 a h7 h10)
    refine ra_store (L' := [_, _, _, _]) rfl rfl rfl (Nat.le_of_ble_eq_true rfl) rfl ?_
    refine ra_load rfl rfl rfl rfl ?_
    refine ra_ifge rfl rfl hz26 (fun h41 => ?_) (fun h41 => ?_)
    · refine ra_load rfl rfl rfl rfl ?_
      refine ra_getR rfl lk_8_7 (Nat.zero_le _) sh_179 rfl ?_
      refine ra_bipush rfl (by decide) ?_
      refine ra_ialoadJ (j := 6) rfl sh_180 rfl (by decide) rfl (by decide) ?_
      have hr42 : ra_in (ra_g s25 (180) 6) := (ra_in_g _ _ _)
      refine ra_load rfl rfl rfl rfl ?_
      refine ra_isub rfl ?_
      refine ra_gen (fun z43 hz43 => ?_)
      refine ra_store (L' := [_, _, _, _]) rfl rfl rfl (Nat.le_of_ble_eq_true rfl) rfl ?_
      refine ra_load rfl rfl rfl rfl ?_
      refine ra_cV (sp_199 ) rfl (ct_199 rfl lk_8_416 (Or.inl rfl) sh_179 (Nat.le_of_ble_eq_true rfl)) (fun s44 hs44 => ?_)
      obtain ⟨hf45, he46⟩ := hs44
      have hF47 := Fr_tr (lo := 179) (hi := 191) hF34 hf45 (by omega)
      have hk48 : s44 (183) = σ (183) := (hf45 (183) (by omega)).trans hk35
      have hk49 : s44 (184) = σ (184) := (hf45 (184) (by omega)).trans hk36
      have hk50 : s44 (187) = σ (187) := (hf45 (187) (by omega)).trans hk37
      have hk51 : s44 (179) = s1 (179) := (hf45 (179) (by omega)).trans hk38
      have hg52 : ∀ a, a ≠ 5 → a ≠ 7 → a ≠ 10 → ra_g s44 179 a = ra_g σ 179 a := fun a h5 h7 h10 => (ra_gk (hf45 179 (by omega))).trans (hg39 a h5 h7 h10)
      have ho53 : ∀ a, a ≠ 7 → a ≠ 10 → ra_g s44 179 a = ra_g σ 179 a := fun a h7 h10 => (ra_gk (hf45 179 (by omega))).trans (ho40 a h7 h10)
      refine ra_load rfl rfl rfl rfl ?_
      exact ra_ireturn rfl rfl ⟨⟨_, hz43, rfl⟩, ⟨hF47, hk48, hk50, hg52, (cs_w hw (hs1 180 (by omega)) he15 hc29 he46), (PW_k hpw (ho53 5 (by decide) (by decide)) hk49)⟩⟩
    · refine ra_iconst rfl ?_
      refine ra_goto rfl rfl ?_
      refine ra_store (L' := [_, _, _, _]) rfl rfl rfl (Nat.le_of_ble_eq_true rfl) rfl ?_
      refine ra_load rfl rfl rfl rfl ?_
      refine ra_cV (sp_199 ) rfl (ct_199 rfl lk_8_416 (Or.inl rfl) sh_179 (Nat.le_of_ble_eq_true rfl)) (fun s54 hs54 => ?_)
      obtain ⟨hf55, he56⟩ := hs54
      have hF57 := Fr_tr (lo := 179) (hi := 191) hF34 hf55 (by omega)
      have hk58 : s54 (183) = σ (183) := (hf55 (183) (by omega)).trans hk35
      have hk59 : s54 (184) = σ (184) := (hf55 (184) (by omega)).trans hk36
      have hk60 : s54 (187) = σ (187) := (hf55 (187) (by omega)).trans hk37
      have hk61 : s54 (179) = s1 (179) := (hf55 (179) (by omega)).trans hk38
      have hg62 : ∀ a, a ≠ 5 → a ≠ 7 → a ≠ 10 → ra_g s54 179 a = ra_g σ 179 a := fun a h5 h7 h10 => (ra_gk (hf55 179 (by omega))).trans (hg39 a h5 h7 h10)
      have ho63 : ∀ a, a ≠ 7 → a ≠ 10 → ra_g s54 179 a = ra_g σ 179 a := fun a h7 h10 => (ra_gk (hf55 179 (by omega))).trans (ho40 a h7 h10)
      refine ra_load rfl rfl rfl rfl ?_
      exact ra_ireturn rfl rfl ⟨⟨_, (by first | omega | (unfold ra_in at *; omega)), rfl⟩, ⟨hF57, hk58, hk60, hg62, (cs_w hw (hs1 180 (by omega)) he15 hc29 he56), (PW_k hpw (ho63 5 (by decide) (by decide)) hk59)⟩⟩
  · refine ra_iconst rfl ?_
    exact ra_ireturn rfl rfl ⟨⟨_, (by first | omega | (unfold ra_in at *; omega)), rfl⟩, ⟨hF3, hk5, hk7, hg8, (WF_k hk4 hw), (PW_k hpw (ho9 5 (by decide) (by decide)) hk6)⟩⟩
end RB
end
section
/-! the reference: what its methods do (printed by wip/gen/ref.py) -/
section RB
theorem sp_333 {n : Nat} {f : Nat → Int32} {d : Nat} {x0 : Int} {x1 : Int} {x2 : Int} {σ : ra_V} (hx0 : ra_in x0) (hx1 : ra_in x1) (hx2 : ra_in x2) (hw : WF σ) (hp : 0 ≤ x0 ∧ x0 < 8 ∧ wq σ x0 0 = 1) (hk : MOK σ x0 x1) : ra_C (g_Gs n f) g_sh 0 (d + 7) 333 [.index (179), ra_I x0, ra_I x1, ra_I x2] σ (fun r s => rB r ∧ Fr (179) (187) σ s ∧ s (180) = σ (180) ∧ s (181) = σ (181) ∧ s (182) = σ (182) ∧ s (183) = σ (183) ∧ s (184) = σ (184) ∧ (∀ a, a ≠ 10 → ra_g s 179 a = ra_g σ 179 a)) := by
  refine ra_enter (nn := 2) mt_333 rfl (Nat.le_of_ble_eq_true rfl) rfl (fun h => absurd h (by decide +kernel)) ?_
  have hw0 := WF_a hw
  unfold WFa at hw0
  have hq := WF_p hw hp.1 hp.2.1 hp.2.2
  refine ra_load rfl rfl rfl rfl ?_
  refine ra_load rfl rfl rfl rfl ?_
  refine ra_iconst rfl ?_
  refine ra_cTp (sp_200 hx0 (by first | omega | (unfold ra_in at *; omega)) (by first | assumption | rfl | omega)) rfl (ct_200 rfl lk_8_67 (Or.inl rfl) sh_179 (Nat.le_of_ble_eq_true rfl)) ?_
  have hr2 : ra_in (wq σ x0 (1)) := (ra_in_wq _ _ _)
  refine ra_store (L' := [_, _, _, _, _, _]) rfl rfl rfl (Nat.le_of_ble_eq_true rfl) rfl ?_
  refine ra_load rfl rfl rfl rfl ?_
  refine ra_load rfl rfl rfl rfl ?_
  refine ra_iconst rfl ?_
  refine ra_load rfl rfl rfl rfl ?_
  refine ra_cV (sp_201 hx0 (by first | omega | (unfold ra_in at *; omega)) hx1 (by first | assumption | rfl | omega)) rfl (ct_201 rfl lk_8_78 (Or.inl rfl) sh_179 (Nat.le_of_ble_eq_true rfl)) (fun s3 hs3 => ?_)
  obtain ⟨hf4, he5, he6⟩ := hs3
  have hF7 := Fr_tr (lo := 179) (hi := 187) Fr_rf hf4 (by omega)
  have hk8 : s3 (181) = σ (181) := (hf4 (181) (by omega))
  have hk9 : s3 (182) = σ (182) := (hf4 (182) (by omega))
  have hk10 : s3 (183) = σ (183) := (hf4 (183) (by omega))
  have hk11 : s3 (184) = σ (184) := (hf4 (184) (by omega))
  have hwb := br_w hw hp hk he5 he6
  refine ra_load rfl rfl rfl rfl ?_
  refine ra_cI (sp_221 hwb) rfl (ct_221 rfl lk_8_421 (Or.inl rfl) sh_179 (Nat.le_of_ble_eq_true rfl)) (fun z13 s12  hz13 hs12 => ?_)
  obtain ⟨hf14, hc15, hc16, hc17, hc18, hc19, he20, he21⟩ := hs12
  have hF22 := Fr_tr (lo := 179) (hi := 187) hF7 hf14 (by omega)
  have hk23 : s12 (181) = σ (181) := hc16.trans hk8
  have hk24 : s12 (182) = σ (182) := hc17.trans hk9
  have hk25 : s12 (183) = σ (183) := hc18.trans hk10
  have hk26 : s12 (184) = σ (184) := hc19.trans hk11
  have he21a := he21.1
  have he21b := he21.2.1
  refine ra_load rfl rfl rfl rfl ?_
  refine ra_iclt rfl rfl hz13 hx2 (fun h27 => ?_) (fun h27 => ?_)
  · refine ra_iconst rfl ?_
    refine ra_store (L' := [_, _, _, _, _, _]) rfl rfl rfl (Nat.le_of_ble_eq_true rfl) rfl ?_
    refine ra_load rfl rfl rfl rfl ?_
    refine ra_load rfl rfl rfl rfl ?_
    refine ra_iconst rfl ?_
    refine ra_load rfl rfl rfl rfl ?_
    refine ra_cV (sp_201 hx0 (by first | omega | (unfold ra_in at *; omega)) hr2 (by first | assumption | rfl | omega)) rfl (ct_201 rfl lk_8_78 (Or.inl rfl) sh_179 (Nat.le_of_ble_eq_true rfl)) (fun s28 hs28 => ?_)
    obtain ⟨hf29, he30, he31⟩ := hs28
    have hF32 := Fr_tr (lo := 179) (hi := 187) hF22 hf29 (by omega)
    have hk33 : s28 (181) = σ (181) := (hf29 (181) (by omega)).trans hk23
    have hk34 : s28 (182) = σ (182) := (hf29 (182) (by omega)).trans hk24
    have hk35 : s28 (183) = σ (183) := (hf29 (183) (by omega)).trans hk25
    have hk36 : s28 (184) = σ (184) := (hf29 (184) (by omega)).trans hk26
    refine ra_load rfl rfl rfl rfl ?_
    exact ra_ireturn rfl (ra_okB (Or.inl rfl)) ⟨⟨_, (Or.inl rfl), rfl⟩, ⟨hF32, br_e ⟨hp.1, hp.2.1⟩ he6 hc15 he30 he31, hk33, hk34, hk35, hk36, (fun a h => (ra_gk (hf29 179 (by omega))).trans ((he20 a h).trans (ra_gk (hf4 179 (by omega)))))⟩⟩
  · refine ra_iconst rfl ?_
    refine ra_goto rfl rfl ?_
    refine ra_store (L' := [_, _, _, _, _, _]) rfl rfl rfl (Nat.le_of_ble_eq_true rfl) rfl ?_
    refine ra_load rfl rfl rfl rfl ?_
    refine ra_load rfl rfl rfl rfl ?_
    refine ra_iconst rfl ?_
    refine ra_load rfl rfl rfl rfl ?_
    refine ra_cV (sp_201 hx0 (by first | omega | (unfold ra_in at *; omega)) hr2 (by first | assumption | rfl | omega)) rfl (ct_201 rfl lk_8_78 (Or.inl rfl) sh_179 (Nat.le_of_ble_eq_true rfl)) (fun s37 hs37 => ?_)
    obtain ⟨hf38, he39, he40⟩ := hs37
    have hF41 := Fr_tr (lo := 179) (hi := 187) hF22 hf38 (by omega)
    have hk42 : s37 (181) = σ (181) := (hf38 (181) (by omega)).trans hk23
    have hk43 : s37 (182) = σ (182) := (hf38 (182) (by omega)).trans hk24
    have hk44 : s37 (183) = σ (183) := (hf38 (183) (by omega)).trans hk25
    have hk45 : s37 (184) = σ (184) := (hf38 (184) (by omega)).trans hk26
    refine ra_load rfl rfl rfl rfl ?_
    exact ra_ireturn rfl (ra_okB (Or.inr rfl)) ⟨⟨_, (Or.inr rfl), rfl⟩, ⟨hF41, br_e ⟨hp.1, hp.2.1⟩ he6 hc15 he39 he40, hk42, hk43, hk44, hk45, (fun a h => (ra_gk (hf38 179 (by omega))).trans ((he20 a h).trans (ra_gk (hf4 179 (by omega)))))⟩⟩
theorem lp_332_72 {n : Nat} {f : Nat → Int32} {d : Nat} {x0 : Int} {σ : ra_V} (hx0 : ra_in x0) (hw : WF σ) {nn62 : Nat} (ih62 : ∀ (v2 : Int) (v3 : Int) (v4 : Int) (s : ra_V) (hv2_0 : ra_in v2) (hv3_0 : ra_in v3) (hv4_0 : 0 ≤ v4) (hv4_1 : v4 ≤ 8) (hF : Fr (179) (187) σ s) (hk0 : s (180) = σ (180)) (hk1 : s (181) = σ (181)) (hk2 : s (182) = σ (182)) (hk3 : s (183) = σ (183)) (hk4 : s (184) = σ (184)) (hoo : ∀ a, a ≠ 7 → a ≠ 10 → ra_g s 179 a = ra_g σ 179 a) (hm : ((8 - v4 : Int)).toNat < nn62), ra_P (g_Gs n f) g_sh 0 (d + 7) g_m_X8_cheapestMove 62 [some (.index (179)), some (ra_I x0), some (ra_I v2), some (ra_I v3), some (ra_I v4), none, none] [] s (fun r s => rI r ∧ Fr (179) (187) σ s ∧ s (180) = σ (180) ∧ s (181) = σ (181) ∧ s (182) = σ (182) ∧ s (183) = σ (183) ∧ s (184) = σ (184) ∧ (∀ a, a ≠ 7 → a ≠ 10 → ra_g s 179 a = ra_g σ 179 a))) : ∀ (nn : Nat) (v2 : Int) (v3 : Int) (v4 : Int) (v5 : Int) (s : ra_V) (hv2_0 : ra_in v2) (hv3_0 : ra_in v3) (hv4_0 : 0 ≤ v4) (hv4_1 : v4 < 8) (hv5_0 : 0 ≤ v5) (hv5_1 : v5 ≤ 600) (hF : Fr (179) (187) σ s) (hk0 : s (180) = σ (180)) (hk1 : s (181) = σ (181)) (hk2 : s (182) = σ (182)) (hk3 : s (183) = σ (183)) (hk4 : s (184) = σ (184)) (hoo : ∀ a, a ≠ 7 → a ≠ 10 → ra_g s 179 a = ra_g σ 179 a) (hm0 : (8 - (v4 + 1)).toNat < nn62) (hm : ((601 - v5 : Int)).toNat < nn), ra_P (g_Gs n f) g_sh 0 (d + 7) g_m_X8_cheapestMove 72 [some (.index (179)), some (ra_I x0), some (ra_I v2), some (ra_I v3), some (ra_I v4), some (ra_I v5), none] [] s (fun r s => rI r ∧ Fr (179) (187) σ s ∧ s (180) = σ (180) ∧ s (181) = σ (181) ∧ s (182) = σ (182) ∧ s (183) = σ (183) ∧ s (184) = σ (184) ∧ (∀ a, a ≠ 7 → a ≠ 10 → ra_g s 179 a = ra_g σ 179 a)) := by
  intro nn
  induction nn with
  | zero => intro v2 v3 v4 v5 s hv2_0 hv3_0 hv4_0 hv4_1 hv5_0 hv5_1 hF hk0 hk1 hk2 hk3 hk4 hoo hm0 hm; exact absurd hm (Nat.not_lt_zero _)
  | succ nn ih =>
    intro v2 v3 v4 v5 s hv2_0 hv3_0 hv4_0 hv4_1 hv5_0 hv5_1 hF hk0 hk1 hk2 hk3 hk4 hoo hm0 hm
    have hw0 := WF_a hw
    unfold WFa at hw0
    refine ra_load rfl rfl rfl rfl ?_
    refine ra_load rfl rfl rfl rfl ?_
    refine ra_iconst rfl ?_
    refine ra_cTp (sp_200 (by first | omega | (unfold ra_in at *; omega)) (by first | omega | (unfold ra_in at *; omega)) (by first | assumption | rfl | omega)) rfl (ct_200 rfl lk_8_67 (Or.inl rfl) sh_179 (Nat.le_of_ble_eq_true rfl)) ?_
    rw [wq_k hk0]
    have hr57 : ra_in (wq σ v4 (0)) := (ra_in_wq _ _ _)
    refine ra_iconst rfl ?_
    refine ra_icne rfl rfl hr57 (by first | omega | (unfold ra_in at *; omega)) (fun h58 => ?_) (fun h58 => ?_)
    · refine ra_iinc (L' := [_, _, _, _, _, _, _]) rfl rfl (Nat.le_of_ble_eq_true rfl) rfl ?_
      refine ra_goto rfl rfl ?_
      exact ra_weak (by repeat' constructor) (ih62 v2 v3 (v4 + 1) s (by first | omega | (unfold ra_in at *; omega)) (by first | omega | (unfold ra_in at *; omega)) (by first | omega | (unfold ra_in at *; omega)) (by first | omega | (unfold ra_in at *; omega)) hF hk0 hk1 hk2 hk3 hk4 hoo (by first | omega | (unfold ra_in at *; omega)))
    · refine ra_load rfl rfl rfl rfl ?_
      refine ra_load rfl rfl rfl rfl ?_
      refine ra_getR rfl lk_8_7 (Nat.zero_le _) sh_179 rfl ?_
      refine ra_iconst rfl ?_
      refine ra_ialoadJ (j := 0) rfl sh_180 rfl (by decide) rfl (by decide) ?_
      rw [ra_gk hk0]
      have hr59 : ra_in (ra_g σ (180) 0) := (ra_in_g _ _ _)
      refine ra_icge rfl rfl (by first | omega | (unfold ra_in at *; omega)) hr59 (fun h60 => ?_) (fun h60 => ?_)
      · refine ra_iinc (L' := [_, _, _, _, _, _, _]) rfl rfl (Nat.le_of_ble_eq_true rfl) rfl ?_
        refine ra_goto rfl rfl ?_
        exact ra_weak (by repeat' constructor) (ih62 v2 v3 (v4 + 1) s (by first | omega | (unfold ra_in at *; omega)) (by first | omega | (unfold ra_in at *; omega)) (by first | omega | (unfold ra_in at *; omega)) (by first | omega | (unfold ra_in at *; omega)) hF hk0 hk1 hk2 hk3 hk4 hoo (by first | omega | (unfold ra_in at *; omega)))
      · refine ra_load rfl rfl rfl rfl ?_
        refine ra_load rfl rfl rfl rfl ?_
        refine ra_load rfl rfl rfl rfl ?_
        refine ra_cIPp (sp_224 (by first | omega | (unfold ra_in at *; omega)) (by first | omega | (unfold ra_in at *; omega)) (WF_k hk0 hw) (by first | assumption | (rw [wq_k hk0]; omega))) rfl (ct_224 rfl lk_8_183 (Or.inl rfl) sh_179 (Nat.le_of_ble_eq_true rfl)) (fun z62 hz62 hz62p => ?_)
        refine ra_ifeq rfl rfl hz62 (fun h63 => ?_) (fun h63 => ?_)
        · refine ra_load rfl rfl rfl rfl ?_
          refine ra_load rfl rfl rfl rfl ?_
          refine ra_load rfl rfl rfl rfl ?_
          refine ra_cIp (sp_227 (by first | omega | (unfold ra_in at *; omega)) (by first | omega | (unfold ra_in at *; omega)) (WF_k hk0 hw) (by first | assumption | (rw [wq_k hk0]; omega)) (mok_to (WF_k hk0 hw) (hz62p (by omega)))) rfl (ct_227 rfl lk_8_388 (Or.inl rfl) sh_179 (Nat.le_of_ble_eq_true rfl)) (fun z65 hz65 => ?_)
          refine ra_store (L' := [_, _, _, _, _, _, _]) rfl rfl rfl (Nat.le_of_ble_eq_true rfl) rfl ?_
          refine ra_load rfl rfl rfl rfl ?_
          refine ra_iconst rfl ?_
          refine ra_iceq rfl rfl (by first | omega | (unfold ra_in at *; omega)) (by first | omega | (unfold ra_in at *; omega)) (fun h66 => ?_) (fun h66 => ?_)
          · refine ra_load rfl rfl rfl rfl ?_
            refine ra_load rfl rfl rfl rfl ?_
            refine ra_load rfl rfl rfl rfl ?_
            refine ra_load rfl rfl rfl rfl ?_
            refine ra_cB (sp_333 (by first | omega | (unfold ra_in at *; omega)) (by first | omega | (unfold ra_in at *; omega)) hx0 (WF_k hk0 hw) (by first | assumption | (rw [wq_k hk0]; omega)) (hz62p (by omega))) rfl (ct_333 rfl lk_8_424 (Or.inl rfl) sh_179 (Nat.le_of_ble_eq_true rfl)) (fun z68 s67  hz68 hs67 => ?_)
            obtain ⟨hf69, hc70, hc71, hc72, hc73, hc74, he75⟩ := hs67
            have hF76 := Fr_tr (lo := 179) (hi := 187) hF hf69 (by omega)
            have hk77 : s67 (180) = σ (180) := hc70.trans hk0
            have hk78 : s67 (181) = σ (181) := hc71.trans hk1
            have hk79 : s67 (182) = σ (182) := hc72.trans hk2
            have hk80 : s67 (183) = σ (183) := hc73.trans hk3
            have hk81 : s67 (184) = σ (184) := hc74.trans hk4
            have ho82 : ∀ a, a ≠ 7 → a ≠ 10 → ra_g s67 179 a = ra_g σ 179 a := fun a h7 h10 => ((fun a h7 h10 => he75 a h10) a h7 h10).trans (hoo a h7 h10)
            refine ra_ifne rfl rfl (ra_in01 hz68) (fun h83 => ?_) (fun h83 => ?_)
            · refine ra_sipush rfl (by decide) ?_
              refine ra_load rfl rfl rfl rfl ?_
              refine ra_imul rfl ?_
              refine ra_gen (fun z84 hz84 => ?_)
              refine ra_load rfl rfl rfl rfl ?_
              refine ra_iadd rfl ?_
              refine ra_gen (fun z85 hz85 => ?_)
              refine ra_store (L' := [_, _, _, _, _, _, _]) rfl rfl rfl (Nat.le_of_ble_eq_true rfl) rfl ?_
              refine ra_load rfl rfl rfl rfl ?_
              refine ra_store (L' := [_, _, _, _, _, _, _]) rfl rfl rfl (Nat.le_of_ble_eq_true rfl) rfl ?_
              refine ra_iinc (L' := [_, _, _, _, _, _, _]) rfl rfl (Nat.le_of_ble_eq_true rfl) rfl ?_
              refine ra_goto rfl rfl ?_
              exact ra_weak (by repeat' constructor) (ih z85 z65 v4 (v5 + 1) s67 hz85 hz65 (by first | omega | (unfold ra_in at *; omega)) (by first | omega | (unfold ra_in at *; omega)) (by first | omega | (unfold ra_in at *; omega)) (by first | omega | (unfold ra_in at *; omega)) hF76 hk77 hk78 hk79 hk80 hk81 ho82 (by omega) (by first | omega | (unfold ra_in at *; omega)))
            · refine ra_goto rfl rfl ?_
              refine ra_iinc (L' := [_, _, _, _, _, _, _]) rfl rfl (Nat.le_of_ble_eq_true rfl) rfl ?_
              refine ra_goto rfl rfl ?_
              exact ra_weak (by repeat' constructor) (ih v2 v3 v4 (v5 + 1) s67 (by first | omega | (unfold ra_in at *; omega)) (by first | omega | (unfold ra_in at *; omega)) (by first | omega | (unfold ra_in at *; omega)) (by first | omega | (unfold ra_in at *; omega)) (by first | omega | (unfold ra_in at *; omega)) (by first | omega | (unfold ra_in at *; omega)) hF76 hk77 hk78 hk79 hk80 hk81 ho82 (by omega) (by first | omega | (unfold ra_in at *; omega)))
          · refine ra_load rfl rfl rfl rfl ?_
            refine ra_load rfl rfl rfl rfl ?_
            refine ra_icge rfl rfl hz65 (by first | omega | (unfold ra_in at *; omega)) (fun h86 => ?_) (fun h86 => ?_)
            · refine ra_iinc (L' := [_, _, _, _, _, _, _]) rfl rfl (Nat.le_of_ble_eq_true rfl) rfl ?_
              refine ra_goto rfl rfl ?_
              exact ra_weak (by repeat' constructor) (ih v2 v3 v4 (v5 + 1) s (by first | omega | (unfold ra_in at *; omega)) (by first | omega | (unfold ra_in at *; omega)) (by first | omega | (unfold ra_in at *; omega)) (by first | omega | (unfold ra_in at *; omega)) (by first | omega | (unfold ra_in at *; omega)) (by first | omega | (unfold ra_in at *; omega)) hF hk0 hk1 hk2 hk3 hk4 hoo (by omega) (by first | omega | (unfold ra_in at *; omega)))
            · refine ra_load rfl rfl rfl rfl ?_
              refine ra_load rfl rfl rfl rfl ?_
              refine ra_load rfl rfl rfl rfl ?_
              refine ra_load rfl rfl rfl rfl ?_
              refine ra_cB (sp_333 (by first | omega | (unfold ra_in at *; omega)) (by first | omega | (unfold ra_in at *; omega)) hx0 (WF_k hk0 hw) (by first | assumption | (rw [wq_k hk0]; omega)) (hz62p (by omega))) rfl (ct_333 rfl lk_8_424 (Or.inl rfl) sh_179 (Nat.le_of_ble_eq_true rfl)) (fun z88 s87  hz88 hs87 => ?_)
              obtain ⟨hf89, hc90, hc91, hc92, hc93, hc94, he95⟩ := hs87
              have hF96 := Fr_tr (lo := 179) (hi := 187) hF hf89 (by omega)
              have hk97 : s87 (180) = σ (180) := hc90.trans hk0
              have hk98 : s87 (181) = σ (181) := hc91.trans hk1
              have hk99 : s87 (182) = σ (182) := hc92.trans hk2
              have hk100 : s87 (183) = σ (183) := hc93.trans hk3
              have hk101 : s87 (184) = σ (184) := hc94.trans hk4
              have ho102 : ∀ a, a ≠ 7 → a ≠ 10 → ra_g s87 179 a = ra_g σ 179 a := fun a h7 h10 => ((fun a h7 h10 => he95 a h10) a h7 h10).trans (hoo a h7 h10)
              refine ra_ifne rfl rfl (ra_in01 hz88) (fun h103 => ?_) (fun h103 => ?_)
              · refine ra_sipush rfl (by decide) ?_
                refine ra_load rfl rfl rfl rfl ?_
                refine ra_imul rfl ?_
                refine ra_gen (fun z104 hz104 => ?_)
                refine ra_load rfl rfl rfl rfl ?_
                refine ra_iadd rfl ?_
                refine ra_gen (fun z105 hz105 => ?_)
                refine ra_store (L' := [_, _, _, _, _, _, _]) rfl rfl rfl (Nat.le_of_ble_eq_true rfl) rfl ?_
                refine ra_load rfl rfl rfl rfl ?_
                refine ra_store (L' := [_, _, _, _, _, _, _]) rfl rfl rfl (Nat.le_of_ble_eq_true rfl) rfl ?_
                refine ra_iinc (L' := [_, _, _, _, _, _, _]) rfl rfl (Nat.le_of_ble_eq_true rfl) rfl ?_
                refine ra_goto rfl rfl ?_
                exact ra_weak (by repeat' constructor) (ih z105 z65 v4 (v5 + 1) s87 hz105 hz65 (by first | omega | (unfold ra_in at *; omega)) (by first | omega | (unfold ra_in at *; omega)) (by first | omega | (unfold ra_in at *; omega)) (by first | omega | (unfold ra_in at *; omega)) hF96 hk97 hk98 hk99 hk100 hk101 ho102 (by omega) (by first | omega | (unfold ra_in at *; omega)))
              · refine ra_goto rfl rfl ?_
                refine ra_iinc (L' := [_, _, _, _, _, _, _]) rfl rfl (Nat.le_of_ble_eq_true rfl) rfl ?_
                refine ra_goto rfl rfl ?_
                exact ra_weak (by repeat' constructor) (ih v2 v3 v4 (v5 + 1) s87 (by first | omega | (unfold ra_in at *; omega)) (by first | omega | (unfold ra_in at *; omega)) (by first | omega | (unfold ra_in at *; omega)) (by first | omega | (unfold ra_in at *; omega)) (by first | omega | (unfold ra_in at *; omega)) (by first | omega | (unfold ra_in at *; omega)) hF96 hk97 hk98 hk99 hk100 hk101 ho102 (by omega) (by first | omega | (unfold ra_in at *; omega)))
        · refine ra_goto rfl rfl ?_
          refine ra_iinc (L' := [_, _, _, _, _, _, _]) rfl rfl (Nat.le_of_ble_eq_true rfl) rfl ?_
          refine ra_goto rfl rfl ?_
          exact ra_weak (by repeat' constructor) (ih v2 v3 v4 (v5 + 1) s (by first | omega | (unfold ra_in at *; omega)) (by first | omega | (unfold ra_in at *; omega)) (by first | omega | (unfold ra_in at *; omega)) (by first | omega | (unfold ra_in at *; omega)) (by first | omega | (unfold ra_in at *; omega)) (by first | omega | (unfold ra_in at *; omega)) hF hk0 hk1 hk2 hk3 hk4 hoo (by omega) (by first | omega | (unfold ra_in at *; omega)))
theorem lp_332_62 {n : Nat} {f : Nat → Int32} {d : Nat} {x0 : Int} {σ : ra_V} (hx0 : ra_in x0) (hw : WF σ) : ∀ (nn : Nat) (v2 : Int) (v3 : Int) (v4 : Int) (s : ra_V) (hv2_0 : ra_in v2) (hv3_0 : ra_in v3) (hv4_0 : 0 ≤ v4) (hv4_1 : v4 ≤ 8) (hF : Fr (179) (187) σ s) (hk0 : s (180) = σ (180)) (hk1 : s (181) = σ (181)) (hk2 : s (182) = σ (182)) (hk3 : s (183) = σ (183)) (hk4 : s (184) = σ (184)) (hoo : ∀ a, a ≠ 7 → a ≠ 10 → ra_g s 179 a = ra_g σ 179 a) (hm : ((8 - v4 : Int)).toNat < nn), ra_P (g_Gs n f) g_sh 0 (d + 7) g_m_X8_cheapestMove 62 [some (.index (179)), some (ra_I x0), some (ra_I v2), some (ra_I v3), some (ra_I v4), none, none] [] s (fun r s => rI r ∧ Fr (179) (187) σ s ∧ s (180) = σ (180) ∧ s (181) = σ (181) ∧ s (182) = σ (182) ∧ s (183) = σ (183) ∧ s (184) = σ (184) ∧ (∀ a, a ≠ 7 → a ≠ 10 → ra_g s 179 a = ra_g σ 179 a)) := by
  intro nn
  induction nn with
  | zero => intro v2 v3 v4 s hv2_0 hv3_0 hv4_0 hv4_1 hF hk0 hk1 hk2 hk3 hk4 hoo hm; exact absurd hm (Nat.not_lt_zero _)
  | succ nn ih =>
    intro v2 v3 v4 s hv2_0 hv3_0 hv4_0 hv4_1 hF hk0 hk1 hk2 hk3 hk4 hoo hm
    have hw0 := WF_a hw
    unfold WFa at hw0
    refine ra_load rfl rfl rfl rfl ?_
    refine ra_bipush rfl (by decide) ?_
    refine ra_icge rfl rfl (by first | omega | (unfold ra_in at *; omega)) (by first | omega | (unfold ra_in at *; omega)) (fun h55 => ?_) (fun h55 => ?_)
    · refine ra_load rfl rfl rfl rfl ?_
      exact ra_ireturn rfl rfl ⟨⟨_, (by first | omega | (unfold ra_in at *; omega)), rfl⟩, ⟨hF, hk0, hk1, hk2, hk3, hk4, hoo⟩⟩
    · refine ra_iconst rfl ?_
      refine ra_store (L' := [_, _, _, _, _, _, _]) rfl rfl rfl (Nat.le_of_ble_eq_true rfl) rfl ?_
      exact ra_weak (by repeat' constructor) (lp_332_72 hx0 hw ih _ v2 v3 v4 (0) s (by first | omega | (unfold ra_in at *; omega)) (by first | omega | (unfold ra_in at *; omega)) (by first | omega | (unfold ra_in at *; omega)) (by first | omega | (unfold ra_in at *; omega)) (by first | omega | (unfold ra_in at *; omega)) (by first | omega | (unfold ra_in at *; omega)) hF hk0 hk1 hk2 hk3 hk4 hoo (by omega) (Nat.lt_succ_self _))
theorem sp_332 {n : Nat} {f : Nat → Int32} {d : Nat} {x0 : Int} {σ : ra_V} (hx0 : ra_in x0) (hw : WF σ) : ra_C (g_Gs n f) g_sh 0 (d + 8) 332 [.index (179), ra_I x0] σ (fun r s => rI r ∧ Fr (179) (187) σ s ∧ s (180) = σ (180) ∧ s (181) = σ (181) ∧ s (182) = σ (182) ∧ s (183) = σ (183) ∧ s (184) = σ (184) ∧ (∀ a, a ≠ 7 → a ≠ 10 → ra_g s 179 a = ra_g σ 179 a)) := by
  refine ra_enter (nn := 5) mt_332 rfl (Nat.le_of_ble_eq_true rfl) rfl (fun h => absurd h (by decide +kernel)) ?_
  have hw0 := WF_a hw
  unfold WFa at hw0
  refine ra_load rfl rfl rfl rfl ?_
  refine ra_iconst rfl ?_
  refine ra_putI rfl lk_8_51 (Nat.zero_le _) sh_179 rfl rfl ?_
  refine ra_newU (by first | omega | (unfold ra_in at *; omega)) (fun s1 hs1 hp2 hp2o => ?_)
  have hp2_99 := hp2o 99 (by decide)
  have hF3 := Fr_tr (lo := 179) (hi := 187) Fr_rf hs1 (by omega)
  have hk4 : s1 (180) = σ (180) := (hs1 (180) (by omega))
  have hk5 : s1 (181) = σ (181) := (hs1 (181) (by omega))
  have hk6 : s1 (182) = σ (182) := (hs1 (182) (by omega))
  have hk7 : s1 (183) = σ (183) := (hs1 (183) (by omega))
  have hk8 : s1 (184) = σ (184) := (hs1 (184) (by omega))
  have ho9 : ∀ a, a ≠ 7 → a ≠ 10 → ra_g s1 179 a = ra_g σ 179 a := fun a h7 h10 => ((fun a h7 h10 => hp2o a h7) a h7 h10).trans ((fun _ _ _ => rfl) a h7 h10)
  refine ra_load rfl rfl rfl rfl ?_
  refine ra_load rfl rfl rfl rfl ?_
  refine ra_i2l rfl hx0 ?_
  refine ra_lconst1 rfl ?_
  refine ra_ldc2 (z := 600) rfl lk_8_419 (by decide) ?_
  refine ra_cTp (sp_193 hx0 (by first | omega | (unfold ra_in at *; omega)) (by first | omega | (unfold ra_in at *; omega))) rfl (ct_193 rfl lk_8_63 (Or.inl rfl) (Nat.le_of_ble_eq_true rfl)) ?_
  refine ra_ifneB rfl rfl (fun h11 => ?_) (fun h11 => ?_)
  · refine ra_iconst rfl ?_
    refine ra_iconst rfl ?_
    refine ra_cT (sp_194 (Or.inl rfl) (by first | omega | (unfold ra_in at *; omega))) rfl (ct_194 rfl lk_8_303 (Or.inl rfl) sh_179 (Nat.le_of_ble_eq_true rfl)) (fun s12 hs12 => ?_)
    obtain ⟨hf13, he14⟩ := hs12
    have hF15 := Fr_tr (lo := 179) (hi := 187) hF3 hf13 (by omega)
    have hk16 : s12 (180) = σ (180) := (hf13 (180) (by omega)).trans hk4
    have hk17 : s12 (181) = σ (181) := (hf13 (181) (by omega)).trans hk5
    have hk18 : s12 (182) = σ (182) := (hf13 (182) (by omega)).trans hk6
    have hk19 : s12 (183) = σ (183) := (hf13 (183) (by omega)).trans hk7
    have hk20 : s12 (184) = σ (184) := (hf13 (184) (by omega)).trans hk8
    have ho21 : ∀ a, a ≠ 7 → a ≠ 10 → ra_g s12 179 a = ra_g σ 179 a := fun a h7 h10 => ((fun a h7 h10 => he14 a h7) a h7 h10).trans (ho9 a h7 h10)
    refine ra_ifne rfl rfl (by first | omega | (unfold ra_in at *; omega)) (fun h22 => ?_) (fun h22 => ?_)
    · exact absurd h22 (by decide)
    · refine ra_load rfl rfl rfl rfl ?_
      refine ra_load rfl rfl rfl rfl ?_
      refine ra_cQPp (sp_204 ) rfl (ct_204 rfl lk_8_95 (Or.inl rfl) sh_179 (Nat.le_of_ble_eq_true rfl)) (fun z24 hz24 hz24p => ?_)
      refine ra_iconst rfl ?_
      refine ra_cT (sp_194 hz24 (by first | omega | (unfold ra_in at *; omega))) rfl (ct_194 rfl lk_8_303 (Or.inl rfl) sh_179 (Nat.le_of_ble_eq_true rfl)) (fun s25 hs25 => ?_)
      obtain ⟨hf26, he27⟩ := hs25
      have hF28 := Fr_tr (lo := 179) (hi := 187) hF15 hf26 (by omega)
      have hk29 : s25 (180) = σ (180) := (hf26 (180) (by omega)).trans hk16
      have hk30 : s25 (181) = σ (181) := (hf26 (181) (by omega)).trans hk17
      have hk31 : s25 (182) = σ (182) := (hf26 (182) (by omega)).trans hk18
      have hk32 : s25 (183) = σ (183) := (hf26 (183) (by omega)).trans hk19
      have hk33 : s25 (184) = σ (184) := (hf26 (184) (by omega)).trans hk20
      have ho34 : ∀ a, a ≠ 7 → a ≠ 10 → ra_g s25 179 a = ra_g σ 179 a := fun a h7 h10 => ((fun a h7 h10 => he27 a h7) a h7 h10).trans (ho21 a h7 h10)
      refine ra_ifeq rfl rfl (ra_in01 hz24) (fun h35 => ?_) (fun h35 => ?_)
      · refine ra_load rfl rfl rfl rfl ?_
        refine ra_cI (sp_221 (WF_k hk29 hw)) rfl (ct_221 rfl lk_8_421 (Or.inl rfl) sh_179 (Nat.le_of_ble_eq_true rfl)) (fun z37 s36  hz37 hs36 => ?_)
        obtain ⟨hf38, hc39, hc40, hc41, hc42, hc43, he44, he45⟩ := hs36
        have hz46 := GZ_s hk29 he45
        have hF47 := Fr_tr (lo := 179) (hi := 187) hF28 hf38 (by omega)
        have hk48 : s36 (180) = σ (180) := hc39.trans hk29
        have hk49 : s36 (181) = σ (181) := hc40.trans hk30
        have hk50 : s36 (182) = σ (182) := hc41.trans hk31
        have hk51 : s36 (183) = σ (183) := hc42.trans hk32
        have hk52 : s36 (184) = σ (184) := hc43.trans hk33
        have ho53 : ∀ a, a ≠ 7 → a ≠ 10 → ra_g s36 179 a = ra_g σ 179 a := fun a h7 h10 => ((fun a h7 h10 => he44 a h10) a h7 h10).trans (ho34 a h7 h10)
        have hz46a := hz46.1
        have hz46b := hz46.2.1
        refine ra_load rfl rfl rfl rfl ?_
        refine ra_iclt rfl rfl hz37 hx0 (fun h54 => ?_) (fun h54 => ?_)
        · refine ra_iconst rfl ?_
          refine ra_store (L' := [_, _, _, _, _, _, _]) rfl rfl rfl (Nat.le_of_ble_eq_true rfl) rfl ?_
          refine ra_iconst rfl ?_
          refine ra_store (L' := [_, _, _, _, _, _, _]) rfl rfl rfl (Nat.le_of_ble_eq_true rfl) rfl ?_
          refine ra_iconst rfl ?_
          refine ra_store (L' := [_, _, _, _, _, _, _]) rfl rfl rfl (Nat.le_of_ble_eq_true rfl) rfl ?_
          exact ra_weak (by repeat' constructor) (lp_332_62 hx0 hw _ (-1) (0) (0) s36 (by first | omega | (unfold ra_in at *; omega)) (by first | omega | (unfold ra_in at *; omega)) (by first | omega | (unfold ra_in at *; omega)) (by first | omega | (unfold ra_in at *; omega)) hF47 hk48 hk49 hk50 hk51 hk52 ho53 (Nat.lt_succ_self _))
        · refine ra_bipush rfl (by decide) ?_
          exact ra_ireturn rfl rfl ⟨⟨_, (by first | omega | (unfold ra_in at *; omega)), rfl⟩, ⟨hF47, hk48, hk49, hk50, hk51, hk52, ho53⟩⟩
      · refine ra_iconst rfl ?_
        exact ra_ireturn rfl rfl ⟨⟨_, (by first | omega | (unfold ra_in at *; omega)), rfl⟩, ⟨hF28, hk29, hk30, hk31, hk32, hk33, ho34⟩⟩
  · refine ra_iconst rfl ?_
    refine ra_goto rfl rfl ?_
    refine ra_iconst rfl ?_
    refine ra_cT (sp_194 (Or.inr rfl) (by first | omega | (unfold ra_in at *; omega))) rfl (ct_194 rfl lk_8_303 (Or.inl rfl) sh_179 (Nat.le_of_ble_eq_true rfl)) (fun s106 hs106 => ?_)
    obtain ⟨hf107, he108⟩ := hs106
    have hF109 := Fr_tr (lo := 179) (hi := 187) hF3 hf107 (by omega)
    have hk110 : s106 (180) = σ (180) := (hf107 (180) (by omega)).trans hk4
    have hk111 : s106 (181) = σ (181) := (hf107 (181) (by omega)).trans hk5
    have hk112 : s106 (182) = σ (182) := (hf107 (182) (by omega)).trans hk6
    have hk113 : s106 (183) = σ (183) := (hf107 (183) (by omega)).trans hk7
    have hk114 : s106 (184) = σ (184) := (hf107 (184) (by omega)).trans hk8
    have ho115 : ∀ a, a ≠ 7 → a ≠ 10 → ra_g s106 179 a = ra_g σ 179 a := fun a h7 h10 => ((fun a h7 h10 => he108 a h7) a h7 h10).trans (ho9 a h7 h10)
    refine ra_ifne rfl rfl (by first | omega | (unfold ra_in at *; omega)) (fun h116 => ?_) (fun h116 => ?_)
    · refine ra_iconst rfl ?_
      exact ra_ireturn rfl rfl ⟨⟨_, (by first | omega | (unfold ra_in at *; omega)), rfl⟩, ⟨hF109, hk110, hk111, hk112, hk113, hk114, ho115⟩⟩
    · exact absurd h116 (by decide)
end RB
end
section
/-! the reference: what its methods do (printed by wip/gen/ref.py) -/
section RB
theorem lp_336_18 {n : Nat} {f : Nat → Int32} {d : Nat} {x0 : Int} {σ : ra_V} (hx0 : ra_in x0) (hi : 0 ≤ x0 ∧ x0 ≤ 999) (ho : 0 ≤ ra_g σ 179 25 ∧ ra_g σ 179 25 + 3 ≤ 150) : ∀ (nn : Nat) (v2 : Int) (s : ra_V) (hv2_0 : v2 = 0 ∨ v2 = 1 ∨ v2 = 10 ∨ v2 = 100) (hF : Fr (179) (191) σ s) (hk0 : s (180) = σ (180)) (hk1 : s (183) = σ (183)) (hk2 : s (184) = σ (184)) (hk3 : s (187) = σ (187)) (hov : ∀ a, a ≠ 25 → ra_g s 179 a = ra_g σ 179 a) (hnl : ra_g σ 179 25 ≤ ra_g s 179 25 ∧ (v2 = 0 → ra_g s 179 25 ≤ ra_g σ 179 25 + 3) ∧ (v2 = 1 → ra_g s 179 25 ≤ ra_g σ 179 25 + 2) ∧ (v2 = 10 → ra_g s 179 25 ≤ ra_g σ 179 25 + 1) ∧ (v2 = 100 → ra_g s 179 25 ≤ ra_g σ 179 25)) (hm : ((v2 : Int)).toNat < nn), ra_P (g_Gs n f) g_sh 0 (d + 1) g_m_X8_writeNumber 18 [some (.index (179)), some (ra_I x0), some (ra_I v2)] [] s (fun r s => rV r ∧ Fr (179) (191) σ s ∧ s (180) = σ (180) ∧ s (183) = σ (183) ∧ s (184) = σ (184) ∧ s (187) = σ (187) ∧ (∀ a, a ≠ 25 → ra_g s 179 a = ra_g σ 179 a) ∧ ra_g σ 179 25 ≤ ra_g s 179 25 ∧ ra_g s 179 25 ≤ ra_g σ 179 25 + 3) := by
  intro nn
  induction nn with
  | zero => intro v2 s hv2_0 hF hk0 hk1 hk2 hk3 hov hnl hm; exact absurd hm (Nat.not_lt_zero _)
  | succ nn ih =>
    intro v2 s hv2_0 hF hk0 hk1 hk2 hk3 hov hnl hm
    have hd := wn_d hv2_0
    refine ra_load rfl rfl rfl rfl ?_
    refine ra_ifle rfl rfl (by first | omega | (unfold ra_in at *; omega)) (fun h2 => ?_) (fun h2 => ?_)
    · exact ra_return rfl rfl ⟨rfl, ⟨hF, hk0, hk1, hk2, hk3, (fun a h => (hov a h)), by omega⟩⟩
    · refine ra_load rfl rfl rfl rfl ?_
      refine ra_bipush rfl (by decide) ?_
      refine ra_load rfl rfl rfl rfl ?_
      refine ra_load rfl rfl rfl rfl ?_
      refine ra_idiv rfl hx0 (by first | omega | (unfold ra_in at *; omega)) (by omega) ?_
      refine ra_bipush rfl (by decide) ?_
      refine ra_irem rfl (ra_in_tdiv hx0 (by omega)) (by first | omega | (unfold ra_in at *; omega)) (by omega) ?_
      refine ra_iadd rfl ?_
      refine ra_gen (fun z3 hz3 => ?_)
      refine ra_cV (sp_335 hz3 (by omega)) rfl (ct_335 rfl lk_8_430 (Or.inl rfl) sh_179 (Nat.le_of_ble_eq_true rfl)) (fun s4 hs4 => ?_)
      obtain ⟨hf5, hc6, hc7, hc8, hc9, he10, he11⟩ := hs4
      have hF12 := Fr_tr (lo := 179) (hi := 191) hF hf5 (by omega)
      have hk13 : s4 (180) = σ (180) := hc6.trans hk0
      have hk14 : s4 (183) = σ (183) := hc7.trans hk1
      have hk15 : s4 (184) = σ (184) := hc8.trans hk2
      have hk16 : s4 (187) = σ (187) := hc9.trans hk3
      refine ra_load rfl rfl rfl rfl ?_
      refine ra_bipush rfl (by decide) ?_
      refine ra_idiv rfl (by first | omega | (unfold ra_in at *; omega)) (by first | omega | (unfold ra_in at *; omega)) (by omega) ?_
      refine ra_store (L' := [_, _, _]) rfl rfl rfl (Nat.le_of_ble_eq_true rfl) rfl ?_
      refine ra_goto rfl rfl ?_
      exact ra_weak (by repeat' constructor) (ih (v2.tdiv (10)) s4 (by first | omega | (unfold ra_in at *; omega)) hF12 hk13 hk14 hk15 hk16 (fun a h => ((he10 a h).trans (hov a h))) (by omega) (by first | omega | (unfold ra_in at *; omega)))
theorem lp_336_2 {n : Nat} {f : Nat → Int32} {d : Nat} {x0 : Int} {σ : ra_V} (hx0 : ra_in x0) (hi : 0 ≤ x0 ∧ x0 ≤ 999) (ho : 0 ≤ ra_g σ 179 25 ∧ ra_g σ 179 25 + 3 ≤ 150) : ∀ (nn : Nat) (v2 : Int) (hv2_0 : v2 = 1 ∨ v2 = 10 ∨ v2 = 100) (hm : ((1000 - v2 : Int)).toNat < nn), ra_P (g_Gs n f) g_sh 0 (d + 1) g_m_X8_writeNumber 2 [some (.index (179)), some (ra_I x0), some (ra_I v2)] [] σ (fun r s => rV r ∧ Fr (179) (191) σ s ∧ s (180) = σ (180) ∧ s (183) = σ (183) ∧ s (184) = σ (184) ∧ s (187) = σ (187) ∧ (∀ a, a ≠ 25 → ra_g s 179 a = ra_g σ 179 a) ∧ ra_g σ 179 25 ≤ ra_g s 179 25 ∧ ra_g s 179 25 ≤ ra_g σ 179 25 + 3) := by
  intro nn
  induction nn with
  | zero => intro v2 hv2_0 hm; exact absurd hm (Nat.not_lt_zero _)
  | succ nn ih =>
    intro v2 hv2_0 hm
    refine ra_load rfl rfl rfl rfl ?_
    refine ra_load rfl rfl rfl rfl ?_
    refine ra_idiv rfl hx0 (by first | omega | (unfold ra_in at *; omega)) (by omega) ?_
    refine ra_bipush rfl (by decide) ?_
    refine ra_icle rfl rfl (ra_in_tdiv hx0 (by omega)) (by first | omega | (unfold ra_in at *; omega)) (fun h1 => ?_) (fun h1 => ?_)
    · exact ra_weak (by repeat' constructor) (lp_336_18 hx0 hi ho _ v2 σ (by first | omega | (unfold ra_in at *; omega)) Fr_rf rfl rfl rfl rfl (fun _ _ => rfl) (by omega) (Nat.lt_succ_self _))
    · have ht := wn_t hi.1 hv2_0 hi.2 (by omega)
      refine ra_load rfl rfl rfl rfl ?_
      refine ra_bipush rfl (by decide) ?_
      refine ra_imul rfl ?_
      refine ra_store (L' := [_, _, _]) rfl rfl rfl (Nat.le_of_ble_eq_true rfl) rfl ?_
      refine ra_goto rfl rfl ?_
      exact ra_weak (by repeat' constructor) (ih (v2 * (10)) (by first | omega | (unfold ra_in at *; omega)) (by first | omega | (unfold ra_in at *; omega)))
theorem sp_336 {n : Nat} {f : Nat → Int32} {d : Nat} {x0 : Int} {σ : ra_V} (hx0 : ra_in x0) (hi : 0 ≤ x0 ∧ x0 ≤ 999) (ho : 0 ≤ ra_g σ 179 25 ∧ ra_g σ 179 25 + 3 ≤ 150) : ra_C (g_Gs n f) g_sh 0 (d + 2) 336 [.index (179), ra_I x0] σ (fun r s => rV r ∧ Fr (179) (191) σ s ∧ s (180) = σ (180) ∧ s (183) = σ (183) ∧ s (184) = σ (184) ∧ s (187) = σ (187) ∧ (∀ a, a ≠ 25 → ra_g s 179 a = ra_g σ 179 a) ∧ ra_g σ 179 25 ≤ ra_g s 179 25 ∧ ra_g s 179 25 ≤ ra_g σ 179 25 + 3) := by
  refine ra_enter (nn := 1) mt_336 rfl (Nat.le_of_ble_eq_true rfl) rfl (fun h => absurd h (by decide +kernel)) ?_
  refine ra_iconst rfl ?_
  refine ra_store (L' := [_, _, _]) rfl rfl rfl (Nat.le_of_ble_eq_true rfl) rfl ?_
  exact ra_weak (by repeat' constructor) (lp_336_2 hx0 hi ho _ (1) (by first | omega | (unfold ra_in at *; omega)) (Nat.lt_succ_self _))
theorem sp_338 {n : Nat} {f : Nat → Int32} {d : Nat} {x0 : Int} {σ : ra_V} (hx0 : ra_in x0) (hw : WF σ) (hp : 0 ≤ x0 ∧ x0 < 8 ∧ wq σ x0 0 = 1) (ho : 0 ≤ ra_g σ 179 25 ∧ ra_g σ 179 25 + 14 ≤ 150) : ra_C (g_Gs n f) g_sh 0 (d + 3) 338 [.index (179), ra_I x0] σ (fun r s => rV r ∧ Fr (179) (191) σ s ∧ s (180) = σ (180) ∧ s (183) = σ (183) ∧ s (184) = σ (184) ∧ s (187) = σ (187) ∧ (∀ a, a ≠ 25 → ra_g s 179 a = ra_g σ 179 a) ∧ ra_g σ 179 25 ≤ ra_g s 179 25 ∧ ra_g s 179 25 ≤ ra_g σ 179 25 + 14) := by
  refine ra_enter (nn := 0) mt_338 rfl (Nat.le_of_ble_eq_true rfl) rfl (fun h => absurd h (by decide +kernel)) ?_
  have hw0 := WF_a hw
  unfold WFa at hw0
  have hq := WF_p hw hp.1 hp.2.1 hp.2.2
  refine ra_load rfl rfl rfl rfl ?_
  refine ra_load rfl rfl rfl rfl ?_
  refine ra_cV (sp_336 hx0 (by omega) (by omega)) rfl (ct_336 rfl lk_8_436 (Or.inl rfl) sh_179 (Nat.le_of_ble_eq_true rfl)) (fun s1 hs1 => ?_)
  obtain ⟨hf2, hc3, hc4, hc5, hc6, he7, he8⟩ := hs1
  have hF9 := Fr_tr (lo := 179) (hi := 191) Fr_rf hf2 (by omega)
  have hk10 : s1 (180) = σ (180) := hc3
  have hk11 : s1 (183) = σ (183) := hc4
  have hk12 : s1 (184) = σ (184) := hc5
  have hk13 : s1 (187) = σ (187) := hc6
  refine ra_load rfl rfl rfl rfl ?_
  refine ra_bipush rfl (by decide) ?_
  refine ra_cV (sp_335 (by first | omega | (unfold ra_in at *; omega)) (by omega)) rfl (ct_335 rfl lk_8_430 (Or.inl rfl) sh_179 (Nat.le_of_ble_eq_true rfl)) (fun s14 hs14 => ?_)
  obtain ⟨hf15, hc16, hc17, hc18, hc19, he20, he21⟩ := hs14
  have hF22 := Fr_tr (lo := 179) (hi := 191) hF9 hf15 (by omega)
  have hk23 : s14 (180) = σ (180) := hc16.trans hk10
  have hk24 : s14 (183) = σ (183) := hc17.trans hk11
  have hk25 : s14 (184) = σ (184) := hc18.trans hk12
  have hk26 : s14 (187) = σ (187) := hc19.trans hk13
  refine ra_load rfl rfl rfl rfl ?_
  refine ra_load rfl rfl rfl rfl ?_
  refine ra_load rfl rfl rfl rfl ?_
  refine ra_iconst rfl ?_
  refine ra_cTp (sp_200 hx0 (by first | omega | (unfold ra_in at *; omega)) (by first | assumption | rfl | omega)) rfl (ct_200 rfl lk_8_67 (Or.inl rfl) sh_179 (Nat.le_of_ble_eq_true rfl)) ?_
  rw [wq_k hk23]
  have hr28 : ra_in (wq σ x0 (1)) := (ra_in_wq _ _ _)
  refine ra_cV (sp_336 hr28 (by omega) (by omega)) rfl (ct_336 rfl lk_8_436 (Or.inl rfl) sh_179 (Nat.le_of_ble_eq_true rfl)) (fun s29 hs29 => ?_)
  obtain ⟨hf30, hc31, hc32, hc33, hc34, he35, he36⟩ := hs29
  have hF37 := Fr_tr (lo := 179) (hi := 191) hF22 hf30 (by omega)
  have hk38 : s29 (180) = σ (180) := hc31.trans hk23
  have hk39 : s29 (183) = σ (183) := hc32.trans hk24
  have hk40 : s29 (184) = σ (184) := hc33.trans hk25
  have hk41 : s29 (187) = σ (187) := hc34.trans hk26
  refine ra_load rfl rfl rfl rfl ?_
  refine ra_bipush rfl (by decide) ?_
  refine ra_cV (sp_335 (by first | omega | (unfold ra_in at *; omega)) (by omega)) rfl (ct_335 rfl lk_8_430 (Or.inl rfl) sh_179 (Nat.le_of_ble_eq_true rfl)) (fun s42 hs42 => ?_)
  obtain ⟨hf43, hc44, hc45, hc46, hc47, he48, he49⟩ := hs42
  have hF50 := Fr_tr (lo := 179) (hi := 191) hF37 hf43 (by omega)
  have hk51 : s42 (180) = σ (180) := hc44.trans hk38
  have hk52 : s42 (183) = σ (183) := hc45.trans hk39
  have hk53 : s42 (184) = σ (184) := hc46.trans hk40
  have hk54 : s42 (187) = σ (187) := hc47.trans hk41
  refine ra_load rfl rfl rfl rfl ?_
  refine ra_load rfl rfl rfl rfl ?_
  refine ra_load rfl rfl rfl rfl ?_
  refine ra_iconst rfl ?_
  refine ra_cTp (sp_200 hx0 (by first | omega | (unfold ra_in at *; omega)) (by first | assumption | rfl | omega)) rfl (ct_200 rfl lk_8_67 (Or.inl rfl) sh_179 (Nat.le_of_ble_eq_true rfl)) ?_
  rw [wq_k hk51]
  have hr56 : ra_in (wq σ x0 (2)) := (ra_in_wq _ _ _)
  refine ra_cV (sp_336 hr56 (by omega) (by omega)) rfl (ct_336 rfl lk_8_436 (Or.inl rfl) sh_179 (Nat.le_of_ble_eq_true rfl)) (fun s57 hs57 => ?_)
  obtain ⟨hf58, hc59, hc60, hc61, hc62, he63, he64⟩ := hs57
  have hF65 := Fr_tr (lo := 179) (hi := 191) hF50 hf58 (by omega)
  have hk66 : s57 (180) = σ (180) := hc59.trans hk51
  have hk67 : s57 (183) = σ (183) := hc60.trans hk52
  have hk68 : s57 (184) = σ (184) := hc61.trans hk53
  have hk69 : s57 (187) = σ (187) := hc62.trans hk54
  refine ra_load rfl rfl rfl rfl ?_
  refine ra_bipush rfl (by decide) ?_
  refine ra_cV (sp_335 (by first | omega | (unfold ra_in at *; omega)) (by omega)) rfl (ct_335 rfl lk_8_430 (Or.inl rfl) sh_179 (Nat.le_of_ble_eq_true rfl)) (fun s70 hs70 => ?_)
  obtain ⟨hf71, hc72, hc73, hc74, hc75, he76, he77⟩ := hs70
  have hF78 := Fr_tr (lo := 179) (hi := 191) hF65 hf71 (by omega)
  have hk79 : s70 (180) = σ (180) := hc72.trans hk66
  have hk80 : s70 (183) = σ (183) := hc73.trans hk67
  have hk81 : s70 (184) = σ (184) := hc74.trans hk68
  have hk82 : s70 (187) = σ (187) := hc75.trans hk69
  refine ra_load rfl rfl rfl rfl ?_
  refine ra_load rfl rfl rfl rfl ?_
  refine ra_iconst rfl ?_
  refine ra_cTp (sp_200 hx0 (by first | omega | (unfold ra_in at *; omega)) (by first | assumption | rfl | omega)) rfl (ct_200 rfl lk_8_67 (Or.inl rfl) sh_179 (Nat.le_of_ble_eq_true rfl)) ?_
  rw [wq_k hk79]
  have hr84 : ra_in (wq σ x0 (5)) := (ra_in_wq _ _ _)
  refine ra_iconst rfl ?_
  refine ra_icne rfl rfl hr84 (by first | omega | (unfold ra_in at *; omega)) (fun h85 => ?_) (fun h85 => ?_)
  · refine ra_load rfl rfl rfl rfl ?_
    refine ra_load rfl rfl rfl rfl ?_
    refine ra_cQPp (sp_205 hx0) rfl (ct_205 rfl lk_8_71 (Or.inl rfl) sh_179 (Nat.le_of_ble_eq_true rfl)) (fun z87 hz87 hz87p => ?_)
    refine ra_ifeq rfl rfl (ra_in01 hz87) (fun h88 => ?_) (fun h88 => ?_)
    · exact ra_return rfl rfl ⟨rfl, ⟨hF78, hk79, hk80, hk81, hk82, (fun a h => ((he76 a h).trans ((he63 a h).trans ((he48 a h).trans ((he35 a h).trans ((he20 a h).trans (he7 a h))))))), by omega⟩⟩
    · refine ra_load rfl rfl rfl rfl ?_
      refine ra_bipush rfl (by decide) ?_
      refine ra_cV (sp_335 (by first | omega | (unfold ra_in at *; omega)) (by omega)) rfl (ct_335 rfl lk_8_430 (Or.inl rfl) sh_179 (Nat.le_of_ble_eq_true rfl)) (fun s89 hs89 => ?_)
      obtain ⟨hf90, hc91, hc92, hc93, hc94, he95, he96⟩ := hs89
      have hF97 := Fr_tr (lo := 179) (hi := 191) hF78 hf90 (by omega)
      have hk98 : s89 (180) = σ (180) := hc91.trans hk79
      have hk99 : s89 (183) = σ (183) := hc92.trans hk80
      have hk100 : s89 (184) = σ (184) := hc93.trans hk81
      have hk101 : s89 (187) = σ (187) := hc94.trans hk82
      exact ra_return rfl rfl ⟨rfl, ⟨hF97, hk98, hk99, hk100, hk101, (fun a h => ((he95 a h).trans ((he76 a h).trans ((he63 a h).trans ((he48 a h).trans ((he35 a h).trans ((he20 a h).trans (he7 a h)))))))), by omega⟩⟩
  · refine ra_load rfl rfl rfl rfl ?_
    refine ra_bipush rfl (by decide) ?_
    refine ra_cV (sp_335 (by first | omega | (unfold ra_in at *; omega)) (by omega)) rfl (ct_335 rfl lk_8_430 (Or.inl rfl) sh_179 (Nat.le_of_ble_eq_true rfl)) (fun s102 hs102 => ?_)
    obtain ⟨hf103, hc104, hc105, hc106, hc107, he108, he109⟩ := hs102
    have hF110 := Fr_tr (lo := 179) (hi := 191) hF78 hf103 (by omega)
    have hk111 : s102 (180) = σ (180) := hc104.trans hk79
    have hk112 : s102 (183) = σ (183) := hc105.trans hk80
    have hk113 : s102 (184) = σ (184) := hc106.trans hk81
    have hk114 : s102 (187) = σ (187) := hc107.trans hk82
    refine ra_load rfl rfl rfl rfl ?_
    refine ra_load rfl rfl rfl rfl ?_
    refine ra_cQPp (sp_205 hx0) rfl (ct_205 rfl lk_8_71 (Or.inl rfl) sh_179 (Nat.le_of_ble_eq_true rfl)) (fun z116 hz116 hz116p => ?_)
    refine ra_ifeq rfl rfl (ra_in01 hz116) (fun h117 => ?_) (fun h117 => ?_)
    · exact ra_return rfl rfl ⟨rfl, ⟨hF110, hk111, hk112, hk113, hk114, (fun a h => ((he108 a h).trans ((he76 a h).trans ((he63 a h).trans ((he48 a h).trans ((he35 a h).trans ((he20 a h).trans (he7 a h)))))))), by omega⟩⟩
    · refine ra_load rfl rfl rfl rfl ?_
      refine ra_bipush rfl (by decide) ?_
      refine ra_cV (sp_335 (by first | omega | (unfold ra_in at *; omega)) (by omega)) rfl (ct_335 rfl lk_8_430 (Or.inl rfl) sh_179 (Nat.le_of_ble_eq_true rfl)) (fun s118 hs118 => ?_)
      obtain ⟨hf119, hc120, hc121, hc122, hc123, he124, he125⟩ := hs118
      have hF126 := Fr_tr (lo := 179) (hi := 191) hF110 hf119 (by omega)
      have hk127 : s118 (180) = σ (180) := hc120.trans hk111
      have hk128 : s118 (183) = σ (183) := hc121.trans hk112
      have hk129 : s118 (184) = σ (184) := hc122.trans hk113
      have hk130 : s118 (187) = σ (187) := hc123.trans hk114
      exact ra_return rfl rfl ⟨rfl, ⟨hF126, hk127, hk128, hk129, hk130, (fun a h => ((he124 a h).trans ((he108 a h).trans ((he76 a h).trans ((he63 a h).trans ((he48 a h).trans ((he35 a h).trans ((he20 a h).trans (he7 a h))))))))), by omega⟩⟩
theorem lp_337_16 {n : Nat} {f : Nat → Int32} {d : Nat}  {σ : ra_V} (hw : WF σ) : ∀ (nn : Nat) (v1 : Int) (s : ra_V) (hv1_0 : -1 ≤ v1 ∧ v1 < 8) (hv1_1 : v1 ≠ -1 → (0 ≤ v1 ∧ v1 < 8 ∧ wq σ v1 0 = 1)) (hF : Fr (179) (191) σ s) (hk0 : s (180) = σ (180)) (hk1 : s (183) = σ (183)) (hk2 : s (184) = σ (184)) (hk3 : s (187) = σ (187)) (hov : ∀ a, a ≠ 7 → a ≠ 25 → ra_g s 179 a = ra_g σ 179 a) (hnl : 0 ≤ ra_g s 179 25 ∧ ra_g s 179 25 + 15 * rst σ v1 ≤ 120) (hm : ((rst σ v1 : Int)).toNat < nn), ra_P (g_Gs n f) g_sh 0 (d + 3) g_m_X8_printDisk 16 [some (.index (179)), some (ra_I v1)] [] s (fun r s => rI r ∧ Fr (179) (191) σ s ∧ s (180) = σ (180) ∧ s (183) = σ (183) ∧ s (184) = σ (184) ∧ s (187) = σ (187) ∧ (∀ a, a ≠ 7 → a ≠ 25 → ra_g s 179 a = ra_g σ 179 a) ∧ 0 ≤ ra_g s 179 25 ∧ ra_g s 179 25 ≤ 150) := by
  intro nn
  induction nn with
  | zero => intro v1 s hv1_0 hv1_1 hF hk0 hk1 hk2 hk3 hov hnl hm; exact absurd hm (Nat.not_lt_zero _)
  | succ nn ih =>
    intro v1 s hv1_0 hv1_1 hF hk0 hk1 hk2 hk3 hov hnl hm
    have hrb := rst_b (σ := σ) (z := v1)
    have hry : v1 ≠ -1 → rst σ v1 = ct σ (wq σ v1 1) + 1 := fun q => rst_y q
    have hcb := (ct_b (σ := σ) (c := wq σ v1 1)).1
    refine ra_load rfl rfl rfl rfl ?_
    refine ra_iconst rfl ?_
    refine ra_iceq rfl rfl (by first | omega | (unfold ra_in at *; omega)) (by first | omega | (unfold ra_in at *; omega)) (fun h17 => ?_) (fun h17 => ?_)
    · refine ra_load rfl rfl rfl rfl ?_
      refine ra_getI rfl lk_8_427 (Nat.zero_le _) sh_179 rfl ?_
      have hr18 : ra_in (ra_g s (179) 25) := (ra_in_g _ _ _)
      exact ra_ireturn rfl rfl ⟨⟨_, hr18, rfl⟩, ⟨hF, hk0, hk1, hk2, hk3, hov, by have := rst_b (σ := σ) (z := v1); omega⟩⟩
    · refine ra_load rfl rfl rfl rfl ?_
      refine ra_getI rfl lk_8_427 (Nat.zero_le _) sh_179 rfl ?_
      have hr19 : ra_in (ra_g s (179) 25) := (ra_in_g _ _ _)
      refine ra_ifle rfl rfl hr19 (fun h20 => ?_) (fun h20 => ?_)
      · refine ra_load rfl rfl rfl rfl ?_
        refine ra_load rfl rfl rfl rfl ?_
        refine ra_cV (sp_338 (by first | omega | (unfold ra_in at *; omega)) (WF_k hk0 hw) (by have a := hv1_1 (by omega); first | exact ⟨a.1, a.2.1, (wq_k hk0).trans a.2.2⟩ | omega) (by omega)) rfl (ct_338 rfl lk_8_433 (Or.inl rfl) sh_179 (Nat.le_of_ble_eq_true rfl)) (fun s21 hs21 => ?_)
        obtain ⟨hf22, hc23, hc24, hc25, hc26, he27, he28⟩ := hs21
        have hF29 := Fr_tr (lo := 179) (hi := 191) hF hf22 (by omega)
        have hk30 : s21 (180) = σ (180) := hc23.trans hk0
        have hk31 : s21 (183) = σ (183) := hc24.trans hk1
        have hk32 : s21 (184) = σ (184) := hc25.trans hk2
        have hk33 : s21 (187) = σ (187) := hc26.trans hk3
        refine ra_load rfl rfl rfl rfl ?_
        refine ra_load rfl rfl rfl rfl ?_
        refine ra_load rfl rfl rfl rfl ?_
        refine ra_iconst rfl ?_
        refine ra_cTp (sp_200 (by first | omega | (unfold ra_in at *; omega)) (by first | omega | (unfold ra_in at *; omega)) (by have a := hv1_1 (by omega); first | exact ⟨a.1, a.2.1, (wq_k hk30).trans a.2.2⟩ | omega)) rfl (ct_200 rfl lk_8_67 (Or.inl rfl) sh_179 (Nat.le_of_ble_eq_true rfl)) ?_
        rw [wq_k hk30]
        have hr35 : ra_in (wq σ v1 (1)) := (ra_in_wq _ _ _)
        refine ra_cIPp (sp_278 hr35) rfl (ct_278 rfl lk_8_333 (Or.inl rfl) sh_179 (Nat.le_of_ble_eq_true rfl)) (fun z37 hz37 hz37p => ?_)
        have hrn := rst_n hw (nb_k0 hk30 hz37p)
        refine ra_store (L' := [_, _]) rfl rfl rfl (Nat.le_of_ble_eq_true rfl) rfl ?_
        refine ra_goto rfl rfl ?_
        exact ra_weak (by repeat' constructor) (ih z37 s21 (by have := (nb_k0 hk30 hz37p).1; omega) (fun q => by have := (nb_k0 hk30 hz37p).1.resolve_left q; exact ⟨this.1, this.2.1, this.2.2.1⟩) hF29 hk30 hk31 hk32 hk33 (fun a h7 h25 => ((he27 a h25).trans (hov a h7 h25))) (by have hr := rst_n hw (nb_k0 hk30 hz37p); omega) (by first | omega | (unfold ra_in at *; omega)))
      · refine ra_load rfl rfl rfl rfl ?_
        refine ra_bipush rfl (by decide) ?_
        refine ra_cV (sp_335 (by first | omega | (unfold ra_in at *; omega)) (by omega)) rfl (ct_335 rfl lk_8_430 (Or.inl rfl) sh_179 (Nat.le_of_ble_eq_true rfl)) (fun s38 hs38 => ?_)
        obtain ⟨hf39, hc40, hc41, hc42, hc43, he44, he45⟩ := hs38
        have hF46 := Fr_tr (lo := 179) (hi := 191) hF hf39 (by omega)
        have hk47 : s38 (180) = σ (180) := hc40.trans hk0
        have hk48 : s38 (183) = σ (183) := hc41.trans hk1
        have hk49 : s38 (184) = σ (184) := hc42.trans hk2
        have hk50 : s38 (187) = σ (187) := hc43.trans hk3
        refine ra_load rfl rfl rfl rfl ?_
        refine ra_load rfl rfl rfl rfl ?_
        refine ra_cV (sp_338 (by first | omega | (unfold ra_in at *; omega)) (WF_k hk47 hw) (by have a := hv1_1 (by omega); first | exact ⟨a.1, a.2.1, (wq_k hk47).trans a.2.2⟩ | omega) (by omega)) rfl (ct_338 rfl lk_8_433 (Or.inl rfl) sh_179 (Nat.le_of_ble_eq_true rfl)) (fun s51 hs51 => ?_)
        obtain ⟨hf52, hc53, hc54, hc55, hc56, he57, he58⟩ := hs51
        have hF59 := Fr_tr (lo := 179) (hi := 191) hF46 hf52 (by omega)
        have hk60 : s51 (180) = σ (180) := hc53.trans hk47
        have hk61 : s51 (183) = σ (183) := hc54.trans hk48
        have hk62 : s51 (184) = σ (184) := hc55.trans hk49
        have hk63 : s51 (187) = σ (187) := hc56.trans hk50
        refine ra_load rfl rfl rfl rfl ?_
        refine ra_load rfl rfl rfl rfl ?_
        refine ra_load rfl rfl rfl rfl ?_
        refine ra_iconst rfl ?_
        refine ra_cTp (sp_200 (by first | omega | (unfold ra_in at *; omega)) (by first | omega | (unfold ra_in at *; omega)) (by have a := hv1_1 (by omega); first | exact ⟨a.1, a.2.1, (wq_k hk60).trans a.2.2⟩ | omega)) rfl (ct_200 rfl lk_8_67 (Or.inl rfl) sh_179 (Nat.le_of_ble_eq_true rfl)) ?_
        rw [wq_k hk60]
        have hr65 : ra_in (wq σ v1 (1)) := (ra_in_wq _ _ _)
        refine ra_cIPp (sp_278 hr65) rfl (ct_278 rfl lk_8_333 (Or.inl rfl) sh_179 (Nat.le_of_ble_eq_true rfl)) (fun z67 hz67 hz67p => ?_)
        have hrn := rst_n hw (nb_k0 hk60 hz67p)
        refine ra_store (L' := [_, _]) rfl rfl rfl (Nat.le_of_ble_eq_true rfl) rfl ?_
        refine ra_goto rfl rfl ?_
        exact ra_weak (by repeat' constructor) (ih z67 s51 (by have := (nb_k0 hk60 hz67p).1; omega) (fun q => by have := (nb_k0 hk60 hz67p).1.resolve_left q; exact ⟨this.1, this.2.1, this.2.2.1⟩) hF59 hk60 hk61 hk62 hk63 (fun a h7 h25 => (((he57 a h25).trans (he44 a h25)).trans (hov a h7 h25))) (by have hr := rst_n hw (nb_k0 hk60 hz67p); omega) (by first | omega | (unfold ra_in at *; omega)))
theorem sp_337 {n : Nat} {f : Nat → Int32} {d : Nat}  {σ : ra_V} (hw : WF σ) : ra_C (g_Gs n f) g_sh 0 (d + 4) 337 [.index (179)] σ (fun r s => rI r ∧ Fr (179) (191) σ s ∧ s (180) = σ (180) ∧ s (183) = σ (183) ∧ s (184) = σ (184) ∧ s (187) = σ (187) ∧ (∀ a, a ≠ 7 → a ≠ 25 → ra_g s 179 a = ra_g σ 179 a) ∧ 0 ≤ ra_g s 179 25 ∧ ra_g s 179 25 ≤ 150) := by
  refine ra_enter (nn := 1) mt_337 rfl (Nat.le_of_ble_eq_true rfl) rfl (fun h => absurd h (by decide +kernel)) ?_
  have hw0 := WF_a hw
  unfold WFa at hw0
  refine ra_load rfl rfl rfl rfl ?_
  refine ra_iconst rfl ?_
  refine ra_putI rfl lk_8_51 (Nat.zero_le _) sh_179 rfl rfl ?_
  refine ra_newU (by first | omega | (unfold ra_in at *; omega)) (fun s1 hs1 hp2 hp2o => ?_)
  have hp2_25 := hp2o 25 (by decide)
  have hF3 := Fr_tr (lo := 179) (hi := 191) Fr_rf hs1 (by omega)
  have hk4 : s1 (180) = σ (180) := (hs1 (180) (by omega))
  have hk5 : s1 (183) = σ (183) := (hs1 (183) (by omega))
  have hk6 : s1 (184) = σ (184) := (hs1 (184) (by omega))
  have hk7 : s1 (187) = σ (187) := (hs1 (187) (by omega))
  refine ra_load rfl rfl rfl rfl ?_
  refine ra_iconst rfl ?_
  refine ra_putI rfl lk_8_427 (Nat.zero_le _) sh_179 rfl rfl ?_
  refine ra_newU (by first | omega | (unfold ra_in at *; omega)) (fun s8 hs8 hp9 hp9o => ?_)
  have hF10 := Fr_tr (lo := 179) (hi := 191) hF3 hs8 (by omega)
  have hk11 : s8 (180) = σ (180) := (hs8 (180) (by omega)).trans hk4
  have hk12 : s8 (183) = σ (183) := (hs8 (183) (by omega)).trans hk5
  have hk13 : s8 (184) = σ (184) := (hs8 (184) (by omega)).trans hk6
  have hk14 : s8 (187) = σ (187) := (hs8 (187) (by omega)).trans hk7
  refine ra_load rfl rfl rfl rfl ?_
  refine ra_iconst rfl ?_
  refine ra_cIPp (sp_278 (by first | omega | (unfold ra_in at *; omega))) rfl (ct_278 rfl lk_8_333 (Or.inl rfl) sh_179 (Nat.le_of_ble_eq_true rfl)) (fun z16 hz16 hz16p => ?_)
  refine ra_store (L' := [_, _]) rfl rfl rfl (Nat.le_of_ble_eq_true rfl) rfl ?_
  exact ra_weak (by repeat' constructor) (lp_337_16 hw _ z16 s8 (by have := (nb_k0 hk11 hz16p).1; omega) (fun q => by have := (nb_k0 hk11 hz16p).1.resolve_left q; exact ⟨this.1, this.2.1, this.2.2.1⟩) hF10 hk11 hk12 hk13 hk14 (fun a h7 h25 => ((hp9o a (by assumption)).trans (hp2o a (by assumption)))) (by have hr := rst_n hw (nb_k0 hk11 hz16p); have hc := ct_b (σ := σ) (c := -1); omega) (Nat.lt_succ_self _))
end RB
end
section
/-! the text: its tokens, as functions of the bytes -/
section TX
/-- behind what P holds of, from i on; n is the length -/
def tx_go (P : Int → Bool) (B : Nat → Int) : Nat → Nat → Nat
  | 0, i => i
  | k + 1, i => if P (B i) then tx_go P B k (i + 1) else i
def tx_sp (P : Int → Bool) (B : Nat → Int) (n i : Nat) : Nat := tx_go P B (n - i) i
theorem tx_sp_s {P : Int → Bool} {B : Nat → Int} {n i : Nat} (h : i < n) (hP : P (B i) = true) : tx_sp P B n i = tx_sp P B n (i + 1) := by
  unfold tx_sp
  rw [show n - i = (n - (i + 1)) + 1 by omega]
  show (if P (B i) = true then tx_go P B (n - (i + 1)) (i + 1) else i) = _
  rw [if_pos hP]
theorem tx_sp_0 {P : Int → Bool} {B : Nat → Int} {n i : Nat} (h : n ≤ i) : tx_sp P B n i = i := by
  unfold tx_sp
  rw [show n - i = 0 by omega]
  rfl
theorem tx_sp_e {P : Int → Bool} {B : Nat → Int} {n i : Nat} (hP : P (B i) = false) : tx_sp P B n i = i := by
  unfold tx_sp
  cases n - i with
  | zero => rfl
  | succ k =>
    show (if P (B i) = true then tx_go P B k (i + 1) else i) = _
    rw [if_neg (by rw [hP]; decide)]
theorem tx_go_le {P : Int → Bool} {B : Nat → Int} : ∀ (k i : Nat), i ≤ tx_go P B k i ∧ tx_go P B k i ≤ i + k
  | 0, i => ⟨Nat.le_refl _, Nat.le_refl _⟩
  | k + 1, i => by
    show i ≤ (if P (B i) = true then tx_go P B k (i + 1) else i) ∧ (if P (B i) = true then tx_go P B k (i + 1) else i) ≤ i + (k + 1)
    have := tx_go_le (P := P) (B := B) k (i + 1)
    split <;> omega
theorem tx_sp_le {P : Int → Bool} {B : Nat → Int} {n i : Nat} : i ≤ tx_sp P B n i ∧ (i ≤ n → tx_sp P B n i ≤ n) := by
  have := tx_go_le (P := P) (B := B) (n - i) i
  unfold tx_sp
  omega
theorem tx_go_c {P : Int → Bool} {B C : Nat → Int} : ∀ (k i : Nat), (∀ j, i ≤ j → j < i + k → B j = C j) → tx_go P B k i = tx_go P C k i
  | 0, _, _ => rfl
  | k + 1, i, h => by
    show (if P (B i) = true then tx_go P B k (i + 1) else i) = (if P (C i) = true then tx_go P C k (i + 1) else i)
    rw [h i (Nat.le_refl _) (by omega), tx_go_c k (i + 1) (fun j h1 h2 => h j (by omega) (by omega))]
/-- two rows of bytes that are the same below n have the same tokens -/
theorem tx_sp_c {P : Int → Bool} {B C : Nat → Int} {n i : Nat} (h : ∀ j, j < n → B j = C j) : tx_sp P B n i = tx_sp P C n i := tx_go_c (n - i) i (fun j _ h2 => h j (by omega))
def tx_bl (b : Int) : Bool := b == 32 || b == 10
def tx_le (b : Int) : Bool := decide (97 ≤ b ∧ b ≤ 122)
def tx_di (b : Int) : Bool := decide (48 ≤ b ∧ b ≤ 57)
/-- the number of the first k digits from a on -/
def tx_v (B : Nat → Int) (a : Nat) : Nat → Int
  | 0 => 0
  | k + 1 => 10 * tx_v B a k + (B (a + k) - 48)
/-- where the token begins that is read at i -/
def tx_a (B : Nat → Int) (n i : Nat) : Nat := tx_sp tx_bl B n i
/-- its sort: 0 end, 1 word, 2 number, 3 semicolon, 4 another -/
def tx_k (B : Nat → Int) (n a : Nat) : Int := if n ≤ a then 0 else if tx_le (B a) then 1 else if tx_di (B a) then 2 else if B a = 59 then 3 else 4
/-- where it ends -/
def tx_e (B : Nat → Int) (n a : Nat) : Nat := if n ≤ a then a else if tx_le (B a) then tx_sp tx_le B n a else if tx_di (B a) then tx_sp tx_di B n a else a + 1
def tx_val (B : Nat → Int) (n a : Nat) : Int := tx_v B a (Nat.min 3 (tx_e B n a - a))
theorem tx_e_gt {B : Nat → Int} {n a : Nat} (h : a < n) : a < tx_e B n a ∧ tx_e B n a ≤ n := by
  unfold tx_e
  rw [if_neg (by omega)]
  split
  · next h1 => rw [tx_sp_s h h1]; have := tx_sp_le (P := tx_le) (B := B) (n := n) (i := a + 1); omega
  · split
    · next h1 => rw [tx_sp_s h h1]; have := tx_sp_le (P := tx_di) (B := B) (n := n) (i := a + 1); omega
    · omega
end TX
end
section
/-! the text: its statements, as functions of the bytes; a state r is numbered as the reference's row is (101 to 104: told already: head, tail, align, chunk) -/
section TX
def tx_up (r : Nat → Int) (k : Nat) (v : Int) : Nat → Int := fun j => if j = k then v else r j
/-- a number is read at i: a failure (code, place), or the number and where it ends -/
def tx_rd (B : Nat → Int) (n i : Nat) (lo hi : Int) : Sum (Int × Nat) (Int × Nat) :=
  if tx_k B n (tx_a B n i) = 2 ∧ tx_e B n (tx_a B n i) - tx_a B n i ≤ 3 then
    if lo ≤ tx_val B n (tx_a B n i) ∧ tx_val B n (tx_a B n i) ≤ hi then .inr (tx_val B n (tx_a B n i), tx_e B n (tx_a B n i)) else .inl (2, tx_a B n i)
  else .inl (1, tx_a B n i)
def tx_semi (B : Nat → Int) (n i : Nat) : Sum (Int × Nat) Nat := if tx_k B n (tx_a B n i) = 3 then .inr (tx_e B n (tx_a B n i)) else .inl (1, tx_a B n i)
def tx_isw (B : Nat → Int) (n a : Nat) (w : List Char) : Bool := tx_k B n a == 1 && (tx_e B n a - a == w.length && (List.range w.length).all (fun j => B (a + j) == ((w.getD j 'a').toNat : Int)))
/-- a setting, its word at a -/
def tx_set (B : Nat → Int) (n : Nat) (r : Nat → Int) (a what slot : Nat) (early : Bool) (lo hi : Int) : Sum (Int × Nat) ((Nat → Int) × Nat) :=
  if early = true ∧ 0 < r 5 then .inl (1, a) else if r slot = 1 then .inl (3, a) else
    match tx_rd B n (tx_e B n a) lo hi with
    | .inl x => .inl x
    | .inr (v, e) => .inr (tx_up (tx_up r what v) slot 1, e)
def tx_meets (r : Nat → Int) (s z : Int) : Bool := (List.range 8).any (fun p => decide ((p : Int) < r 5 ∧ s < r (25 + 8 * p) + r (26 + 8 * p) ∧ r (25 + 8 * p) < s + z))
def tx_mk (r : Nat → Int) (st sz kd mn : Int) : Nat → Int := fun j =>
  if j = 5 then r 5 + 1 else
  if j = 24 + 8 * (r 5).toNat then 1 else if j = 25 + 8 * (r 5).toNat then st else if j = 26 + 8 * (r 5).toNat then sz else if j = 27 + 8 * (r 5).toNat then mn else
  if j = 28 + 8 * (r 5).toNat then kd else if j = 29 + 8 * (r 5).toNat then 0 else if j = 30 + 8 * (r 5).toNat then r 5 else if j = 31 + 8 * (r 5).toNat then 0 else r j
def tx_part (B : Nat → Int) (n : Nat) (r : Nat → Int) (a : Nat) : Sum (Int × Nat) ((Nat → Int) × Nat) :=
  if r 5 = 8 then .inl (5, a) else
    match tx_rd B n (tx_e B n a) (r 1) (r 0 - r 2 - 1) with
    | .inl x => .inl x
    | .inr (st, e1) => if st % r 3 ≠ 0 then .inl (2, tx_a B n (tx_e B n a)) else
      match tx_rd B n e1 1 (r 0 - r 2 - st) with
      | .inl x => .inl x
      | .inr (sz, e2) => if tx_meets r st sz then .inl (4, tx_a B n e1) else
        match tx_rd B n e2 0 9 with
        | .inl x => .inl x
        | .inr (kd, e3) => match tx_rd B n e3 1 sz with
          | .inl x => .inl x
          | .inr (mn, e4) => .inr (tx_mk r st sz kd mn, e4)
def tx_lock (B : Nat → Int) (n : Nat) (r : Nat → Int) (a : Nat) : Sum (Int × Nat) ((Nat → Int) × Nat) :=
  match tx_rd B n (tx_e B n a) 0 (r 5 - 1) with
  | .inl x => .inl x
  | .inr (v, e) => if r (29 + 8 * v.toNat) = 1 then .inl (3, tx_a B n (tx_e B n a)) else .inr (tx_up r (29 + 8 * v.toNat) 1, e)
def tx_stmt (B : Nat → Int) (n : Nat) (r : Nat → Int) (a : Nat) : Sum (Int × Nat) ((Nat → Int) × Nat) :=
  if tx_isw B n a ['h', 'e', 'a', 'd'] then tx_set B n r a 1 101 true 0 31
  else if tx_isw B n a ['t', 'a', 'i', 'l'] then tx_set B n r a 2 102 true 0 31
  else if tx_isw B n a ['a', 'l', 'i', 'g', 'n'] then tx_set B n r a 3 103 true 1 32
  else if tx_isw B n a ['c', 'h', 'u', 'n', 'k'] then tx_set B n r a 4 104 false 1 16
  else if tx_isw B n a ['p', 'a', 'r', 't'] then tx_part B n r a
  else if tx_isw B n a ['l', 'o', 'c', 'k'] then tx_lock B n r a
  else .inl (1, a)
def tx_ps (B : Nat → Int) (n : Nat) (o : Sum (Int × Nat) ((Nat → Int) × Nat)) : Sum (Int × Nat) ((Nat → Int) × Nat) := match o with
  | .inl x => .inl x
  | .inr (r, e) => match tx_semi B n e with
    | .inl x => .inl x
    | .inr e2 => .inr (r, e2)
def tx_run (B : Nat → Int) (n : Nat) : Nat → (Nat → Int) → Nat → Sum (Int × Nat) (Nat → Int)
  | 0, r, _ => .inr r
  | k + 1, r, i => if tx_k B n (tx_a B n i) = 0 then .inr r else
    match tx_ps B n (tx_stmt B n r (tx_a B n i)) with
    | .inl x => .inl x
    | .inr (r2, e) => tx_run B n k r2 e
def tx_r0 (v : Int) : Nat → Int := fun j => if j = 0 then v else if j = 3 then 1 else if j = 4 then 4 else 0
/-- the whole text: a failure (code, place), or the state behind it -/
def tx_text (B : Nat → Int) (n : Nat) : Sum (Int × Nat) (Nat → Int) :=
  if tx_isw B n (tx_a B n 0) ['d', 'i', 's', 'k'] then
    match tx_rd B n (tx_e B n (tx_a B n 0)) 64 600 with
    | .inl x => .inl x
    | .inr (v, e) => match tx_semi B n e with
      | .inl x => .inl x
      | .inr e2 => tx_run B n 500 (tx_r0 v) e2
  else .inl (1, tx_a B n 0)
/-- what loadDisk answers, what errorCode and errorOffset answer behind it -/
def tx_ans (o : Sum (Int × Nat) (Nat → Int)) : Int := match o with
  | .inl _ => -1
  | .inr r => r 5
def tx_err (o : Sum (Int × Nat) (Nat → Int)) : Int := match o with
  | .inl x => x.1
  | .inr _ => 0
def tx_off (o : Sum (Int × Nat) (Nat → Int)) : Int := match o with
  | .inl x => x.2
  | .inr _ => -1
end TX
end
section
/-! T4: the bytes of the class, its tokens -/
section
section
variable {σ s t : ra_V} {B : Nat → Int} {bn a i k : Nat} {b x : Int}
/-- the class's bytes -/
def x4TB (σ : ra_V) (B : Nat → Int) (bn : Nat) : Prop := ra_g σ 175 1 = bn ∧ bn ≤ 500 ∧ (∀ i, i < bn → B i = ra_g σ 176 i ∧ 0 ≤ B i) ∧ ∀ i, bn ≤ i → B i = -1
theorem x4TB_k (h1 : ra_g s 175 1 = ra_g σ 175 1) (h2 : s 176 = σ 176) (h : x4TB σ B bn) : x4TB s B bn := by
  obtain ⟨a, b, c, d⟩ := h
  exact ⟨h1.trans a, b, fun i hi => by rw [ra_gk h2]; exact c i hi, d⟩
theorem x4TB_y (h : x4TB σ B bn) (h0 : 0 ≤ x) (h1 : x < bn) : ra_g σ 176 x.toNat = B x.toNat := ((h.2.2.1 x.toNat (by omega)).1).symm
theorem x4TB_n (h : x4TB σ B bn) (h1 : (bn : Int) ≤ x) : -1 = B x.toNat := (h.2.2.2 x.toNat (by omega)).symm
theorem x4TB_in (h : x4TB σ B bn) : ra_in (B i) := by
  by_cases c : i < bn
  · rw [(h.2.2.1 i c).1]; exact ra_in_g _ _ _
  · rw [h.2.2.2 i (by omega)]; unfold ra_in; omega
theorem x4bl_y (h : b = 32 ∨ b = 10) : tx_bl b = true := by rcases h with rfl | rfl <;> rfl
theorem x4bl_n (h : b ≠ 32) (h2 : b ≠ 10) : tx_bl b = false := by
  unfold tx_bl
  rw [Bool.or_eq_false_iff]
  exact ⟨by simpa using h, by simpa using h2⟩
theorem x4le_y (h : 97 ≤ b ∧ b ≤ 122) : tx_le b = true := decide_eq_true h
theorem x4le_n (h : ¬ (97 ≤ b ∧ b ≤ 122)) : tx_le b = false := decide_eq_false h
theorem x4di_y (h : 48 ≤ b ∧ b ≤ 57) : tx_di b = true := decide_eq_true h
theorem x4di_n (h : ¬ (48 ≤ b ∧ b ≤ 57)) : tx_di b = false := decide_eq_false h
theorem x4tv_y (hk : k < 3) (h : x = tx_v B a (Nat.min 3 k)) : x * 10 + B (a + k) - 48 = tx_v B a (Nat.min 3 (k + 1)) := by
  rw [show Nat.min 3 k = k from Nat.min_eq_right (by omega)] at h
  rw [show Nat.min 3 (k + 1) = k + 1 from Nat.min_eq_right (by omega)]
  show _ = 10 * tx_v B a k + (B (a + k) - 48)
  rw [h]
  omega
theorem x4tv_n (hk : 3 ≤ k) (h : x = tx_v B a (Nat.min 3 k)) : x = tx_v B a (Nat.min 3 (k + 1)) := by
  rw [show Nat.min 3 (k + 1) = 3 from Nat.min_eq_left (by omega)]
  rw [show Nat.min 3 k = 3 from Nat.min_eq_left (by omega)] at h
  exact h
/-- the class's token that begins at a -/
def x4NXC (B : Nat → Int) (bn : Nat) (s : ra_V) (a : Nat) : Prop := ra_g s 175 6 = (a : Nat) ∧ ra_g s 175 4 = (tx_e B bn a : Nat) ∧ (tx_k B bn a = 2 ∧ a + 3 < tx_e B bn a → ra_g s 175 5 = 4) ∧ (¬ (tx_k B bn a = 2 ∧ a + 3 < tx_e B bn a) → ra_g s 175 5 = tx_k B bn a) ∧ (tx_k B bn a = 2 → ra_g s 175 7 = tx_val B bn a) ∧ a ≤ bn ∧ a ≤ tx_e B bn a ∧ tx_e B bn a ≤ bn ∧ ra_in (tx_k B bn a)
theorem x4tk_0 (h : bn ≤ a) : tx_k B bn a = 0 := by unfold tx_k; rw [if_pos h]
theorem x4tk_1 (h : a < bn) (hl : tx_le (B a) = true) : tx_k B bn a = 1 := by unfold tx_k; rw [if_neg (by omega), if_pos hl]
theorem x4tk_2 (h : a < bn) (hl : tx_le (B a) = false) (hd : tx_di (B a) = true) : tx_k B bn a = 2 := by unfold tx_k; rw [if_neg (by omega), hl, if_neg (by decide), if_pos hd]
theorem x4tk_3 (h : a < bn) (hl : tx_le (B a) = false) (hd : tx_di (B a) = false) : tx_k B bn a = if B a = 59 then 3 else 4 := by unfold tx_k; rw [if_neg (by omega), hl, if_neg (by decide), hd, if_neg (by decide)]
theorem x4te_0 (h : bn ≤ a) : tx_e B bn a = a := by unfold tx_e; rw [if_pos h]
theorem x4te_1 (h : a < bn) (hl : tx_le (B a) = true) : tx_e B bn a = tx_sp tx_le B bn a := by unfold tx_e; rw [if_neg (by omega), if_pos hl]
theorem x4te_2 (h : a < bn) (hl : tx_le (B a) = false) (hd : tx_di (B a) = true) : tx_e B bn a = tx_sp tx_di B bn a := by unfold tx_e; rw [if_neg (by omega), hl, if_neg (by decide), if_pos hd]
theorem x4te_3 (h : a < bn) (hl : tx_le (B a) = false) (hd : tx_di (B a) = false) : tx_e B bn a = a + 1 := by unfold tx_e; rw [if_neg (by omega), hl, if_neg (by decide), hd, if_neg (by decide)]
theorem x4te_le (h : a ≤ bn) : a ≤ tx_e B bn a ∧ tx_e B bn a ≤ bn := by
  by_cases c : a = bn
  · rw [x4te_0 (by omega)]; omega
  · have := tx_e_gt (B := B) (n := bn) (a := a) (by omega)
    omega
theorem x4tk_in : ra_in (tx_k B bn a) := by
  unfold tx_k ra_in
  split
  · omega
  · split
    · omega
    · split
      · omega
      · split <;> omega
theorem x4nxc_0 (hs : ra_g s 175 6 = (a : Nat)) (hp : ra_g s 175 4 = (a : Nat)) (ht : ra_g s 175 5 = 0) (h : bn ≤ a) (h2 : a ≤ bn) : x4NXC B bn s a := by
  have e1 := x4tk_0 (B := B) h
  have e2 := x4te_0 (B := B) h
  have := x4tk_in (B := B) (bn := bn) (a := a)
  refine ⟨hs, by omega, fun q => by omega, fun q => by omega, fun q => by omega, h2, by omega, by omega, this⟩
theorem x4nxc_w (hs : ra_g s 175 6 = (a : Nat)) (hp : ra_g s 175 4 = (tx_sp tx_le B bn a : Nat)) (ht : ra_g s 175 5 = 1) (h : a < bn) (hl : tx_le (B a) = true) : x4NXC B bn s a := by
  have e1 := x4tk_1 h hl
  have e2 := x4te_1 h hl
  have e3 := x4te_le (B := B) (Nat.le_of_lt h)
  have := x4tk_in (B := B) (bn := bn) (a := a)
  refine ⟨hs, by omega, fun q => by omega, fun q => by omega, fun q => by omega, by omega, by omega, by omega, this⟩
theorem x4nxc_1 (hs : ra_g s 175 6 = (a : Nat)) (hp : ra_g s 175 4 = (a : Nat) + 1) (h : a < bn) (hl : tx_le (B a) = false) (hd : tx_di (B a) = false) (ht : (B a = 59 → ra_g s 175 5 = 3) ∧ (B a ≠ 59 → ra_g s 175 5 = 4)) : x4NXC B bn s a := by
  have e1 := x4tk_3 h hl hd
  have e2 := x4te_3 h hl hd
  have := x4tk_in (B := B) (bn := bn) (a := a)
  have e4 : tx_k B bn a = ra_g s 175 5 := by
    rw [e1]
    split
    · next q => exact (ht.1 q).symm
    · next q => exact (ht.2 q).symm
  have e5 : tx_k B bn a ≠ 2 := by
    rw [e1]
    split <;> omega
  refine ⟨hs, by omega, fun q => absurd q.1 e5, fun q => e4.symm, fun q => absurd q e5, by omega, by omega, by omega, this⟩
theorem x4nxc_n (hs : ra_g s 175 6 = (a : Nat)) (hp : ra_g s 175 4 = (tx_sp tx_di B bn a : Nat)) (h : a < bn) (hl : tx_le (B a) = false) (hd : tx_di (B a) = true) (ht : (3 < ra_g s 175 4 - ra_g s 175 6 → ra_g s 175 5 = 4) ∧ (ra_g s 175 4 - ra_g s 175 6 ≤ 3 → ra_g s 175 5 = 2)) (hv : ra_g s 175 7 = tx_v B a (Nat.min 3 (tx_sp tx_di B bn a - a))) : x4NXC B bn s a := by
  have e1 := x4tk_2 h hl hd
  have e2 := x4te_2 h hl hd
  have e3 := x4te_le (B := B) (Nat.le_of_lt h)
  have := x4tk_in (B := B) (bn := bn) (a := a)
  refine ⟨hs, by omega, fun q => by omega, fun q => by omega, fun _ => ?_, by omega, by omega, by omega, this⟩
  unfold tx_val
  rw [e2]
  exact hv
/-- a number read by the class -/
def x4NUM (B : Nat → Int) (bn : Nat) (σ s : ra_V) (z : Int) (i : Nat) (lo hi : Int) : Prop :=
  (z = 1 ∧ ∃ (v : Int) (e : Nat), tx_rd B bn i lo hi = .inr (v, e) ∧ ra_g s 175 7 = v ∧ ra_g s 175 4 = (e : Nat) ∧ e ≤ bn ∧ lo ≤ v ∧ v ≤ hi ∧ ra_g s 175 2 = ra_g σ 175 2 ∧ ra_g s 175 3 = ra_g σ 175 3 ∧ ra_g s 175 6 = (tx_a B bn i : Nat)) ∨
  (z = 0 ∧ ∃ (c : Int) (a : Nat), tx_rd B bn i lo hi = .inl (c, a) ∧ ra_g s 175 2 = c ∧ ra_g s 175 3 = (a : Nat))
theorem x4num_1 {z lo hi : Int} (hN : x4NXC B bn t (tx_a B bn i)) (ht : ra_g t 175 5 ≠ 2) (hz : z = 0) (h : ra_g s 175 2 = 1 ∧ ra_g s 175 3 = ra_g t 175 6) : x4NUM B bn σ s z i lo hi := by
  obtain ⟨n1, n2, n3, n4, n5, n6, n7, n8, -⟩ := hN
  refine Or.inr ⟨hz, 1, tx_a B bn i, ?_, by omega, by omega⟩
  unfold tx_rd
  rw [if_neg (by omega)]
theorem x4num_2 {z lo hi : Int} (hN : x4NXC B bn t (tx_a B bn i)) (ht : ra_g t 175 5 = 2) (hv : ¬ (lo ≤ ra_g t 175 7 ∧ ra_g t 175 7 ≤ hi)) (hz : z = 0) (h : ra_g s 175 2 = 2 ∧ ra_g s 175 3 = ra_g t 175 6) : x4NUM B bn σ s z i lo hi := by
  obtain ⟨n1, n2, n3, n4, n5, n6, n7, n8, -⟩ := hN
  have k2 : tx_k B bn (tx_a B bn i) = 2 ∧ tx_e B bn (tx_a B bn i) - tx_a B bn i ≤ 3 := by omega
  have e := n5 k2.1
  refine Or.inr ⟨hz, 2, tx_a B bn i, ?_, by omega, by omega⟩
  unfold tx_rd
  rw [if_pos k2, if_neg (by omega)]
theorem x4num_y {z lo hi : Int} (hN : x4NXC B bn s (tx_a B bn i)) (ht : ra_g s 175 5 = 2) (hv : lo ≤ ra_g s 175 7 ∧ ra_g s 175 7 ≤ hi) (hz : z = 1) (h : ra_g s 175 2 = ra_g σ 175 2 ∧ ra_g s 175 3 = ra_g σ 175 3) : x4NUM B bn σ s z i lo hi := by
  obtain ⟨n1, n2, n3, n4, n5, n6, n7, n8, -⟩ := hN
  have k2 : tx_k B bn (tx_a B bn i) = 2 ∧ tx_e B bn (tx_a B bn i) - tx_a B bn i ≤ 3 := by omega
  have e := n5 k2.1
  refine Or.inl ⟨hz, tx_val B bn (tx_a B bn i), tx_e B bn (tx_a B bn i), ?_, e, n2, n8, by omega, by omega, h.1, h.2, n1⟩
  unfold tx_rd
  rw [if_pos k2, if_pos (by omega)]
def x4SEM (B : Nat → Int) (bn : Nat) (σ s : ra_V) (z : Int) (i : Nat) : Prop :=
  (z = 1 ∧ ∃ e : Nat, tx_semi B bn i = .inr e ∧ ra_g s 175 4 = (e : Nat) ∧ e ≤ bn ∧ ra_g s 175 2 = ra_g σ 175 2 ∧ ra_g s 175 3 = ra_g σ 175 3) ∨
  (z = 0 ∧ ∃ (c : Int) (a : Nat), tx_semi B bn i = .inl (c, a) ∧ ra_g s 175 2 = c ∧ ra_g s 175 3 = (a : Nat))
theorem x4sem_n {z : Int} (hN : x4NXC B bn t (tx_a B bn i)) (ht : ra_g t 175 5 ≠ 3) (hz : z = 0) (h : ra_g s 175 2 = 1 ∧ ra_g s 175 3 = ra_g t 175 6) : x4SEM B bn σ s z i := by
  obtain ⟨n1, n2, n3, n4, n5, n6, n7, n8, -⟩ := hN
  refine Or.inr ⟨hz, 1, tx_a B bn i, ?_, by omega, by omega⟩
  unfold tx_semi
  rw [if_neg (by omega)]
theorem x4sem_y {z : Int} (hN : x4NXC B bn s (tx_a B bn i)) (ht : ra_g s 175 5 = 3) (hz : z = 1) (h : ra_g s 175 2 = ra_g σ 175 2 ∧ ra_g s 175 3 = ra_g σ 175 3) : x4SEM B bn σ s z i := by
  obtain ⟨n1, n2, n3, n4, n5, n6, n7, n8, -⟩ := hN
  refine Or.inl ⟨hz, tx_e B bn (tx_a B bn i), ?_, n2, n8, h.1, h.2⟩
  unfold tx_semi
  rw [if_pos (by omega)]
/-- a word is this one -/
theorem x4isw_iff {w : List Char} : tx_isw B bn a w = true ↔ (tx_k B bn a = 1 ∧ tx_e B bn a - a = w.length ∧ ∀ j, j < w.length → B (a + j) = ((w.getD j 'a').toNat : Int)) := by
  unfold tx_isw
  simp only [Bool.and_eq_true, beq_iff_eq, List.all_eq_true, List.mem_range]
theorem x4isw_n {w : List Char} {c : Char} {j : Nat} (h : w[j]? = some c) (hb : B (a + j) ≠ (c.toNat : Int)) : ¬ tx_isw B bn a w = true := by
  intro q
  have hj : j < w.length := (List.getElem?_eq_some_iff.mp h).1
  have := (x4isw_iff.mp q).2.2 j hj
  rw [List.getD_eq_getElem?_getD, h] at this
  exact hb this
theorem x4isw_s {w : List Char} {c : Char} {v : Int} (h0 : 0 ≤ v) (hs : ∀ j : Nat, (j : Int) < v → B (a + j) = ((w.getD j 'a').toNat : Int)) (h : w[v.toNat]? = some c) (hb : B (a + v.toNat) = (c.toNat : Int)) : ∀ j : Nat, (j : Int) < v + 1 → B (a + j) = ((w.getD j 'a').toNat : Int) := by
  intro j hj
  by_cases e : j = v.toNat
  · rw [e, hb, List.getD_eq_getElem?_getD, h]; rfl
  · exact hs j (by omega)
theorem x4ch_in (c : Char) : ra_in (c.toNat : Int) := by
  have := c.valid
  have h : c.toNat < 1114112 := by
    rcases this with h | h
    · have : c.val.toNat < 55296 := h
      show c.val.toNat < _
      omega
    · have : c.val.toNat < 1114112 := h.2
      exact this
  unfold ra_in
  omega
end
end
end
section
/-! T4: what the class's methods that read a text do (printed by wip/gen/c4.py) -/
section
variable {B : Nat → Int} {bn ps ta : Nat} {pk uv al : Int} {r : Nat → Int}
theorem s4_108 {n : Nat} {f : Nat → Int32} {d : Nat} {x0 : Int} {σ : ra_V} (hx0 : ra_in x0) (hB : x4TB σ B bn) (h0 : 0 ≤ x0) : ra_C (g_Gs n f) g_sh 0 (d + 1) 108 [.index (175), ra_I x0] σ (fun r9 s => r9 = .inl (some (ra_I (B x0.toNat))) ∧ s = σ) := by
  refine ra_enter (nn := 0) mt_108 rfl (Nat.le_of_ble_eq_true rfl) rfl (fun h => absurd h (by decide +kernel)) ?_
  have hB0 := hB
  obtain ⟨b1, b2, b3, b4⟩ := hB0
  refine ra_load rfl rfl rfl rfl ?_
  refine ra_iflt rfl rfl hx0 (fun h1 => ?_) (fun h1 => ?_)
  · refine ra_iconst rfl ?_
    refine ra_goto rfl rfl ?_
    exact ra_ireturn rfl rfl ⟨(congrArg (fun z => Sum.inl (some (ra_I z))) (by first | exact x4TB_n hB (by omega) | exact x4TB_y hB (by omega) (by omega))), rfl⟩
  · refine ra_load rfl rfl rfl rfl ?_
    refine ra_load rfl rfl rfl rfl ?_
    refine ra_getI rfl lk_6_22 (Nat.zero_le _) sh_175 rfl ?_
    have hr2 : ra_in (ra_g σ (175) 1) := (ra_in_g _ _ _)
    refine ra_icge rfl rfl hx0 hr2 (fun h3 => ?_) (fun h3 => ?_)
    · refine ra_iconst rfl ?_
      refine ra_goto rfl rfl ?_
      exact ra_ireturn rfl rfl ⟨(congrArg (fun z => Sum.inl (some (ra_I z))) (by first | exact x4TB_n hB (by omega) | exact x4TB_y hB (by omega) (by omega))), rfl⟩
    · refine ra_load rfl rfl rfl rfl ?_
      refine ra_load rfl rfl rfl rfl ?_
      refine ra_getR rfl lk_6_9 (Nat.zero_le _) sh_175 rfl ?_
      refine ra_alen rfl sh_176 rfl ?_
      refine ra_iclt rfl rfl hx0 (by first | omega | (unfold ra_in at *; omega)) (fun h4 => ?_) (fun h4 => ?_)
      · refine ra_load rfl rfl rfl rfl ?_
        refine ra_getR rfl lk_6_9 (Nat.zero_le _) sh_175 rfl ?_
        refine ra_load rfl rfl rfl rfl ?_
        refine ra_iaload rfl sh_176 rfl (by decide) (by first | omega | (unfold ra_in at *; omega)) (by first | omega | (unfold ra_in at *; omega)) ?_
        have hr5 : ra_in (ra_g σ (176) x0.toNat) := (ra_in_g _ _ _)
        exact ra_ireturn rfl rfl ⟨(congrArg (fun z => Sum.inl (some (ra_I z))) (by first | exact x4TB_n hB (by omega) | exact x4TB_y hB (by omega) (by omega))), rfl⟩
      · refine ra_iconst rfl ?_
        refine ra_goto rfl rfl ?_
        exact ra_ireturn rfl rfl ⟨(congrArg (fun z => Sum.inl (some (ra_I z))) (by first | exact x4TB_n hB (by omega) | exact x4TB_y hB (by omega) (by omega))), rfl⟩
theorem s4_109 {n : Nat} {f : Nat → Int32} {d : Nat} {x0 : Int} {σ : ra_V} (hx0 : ra_in x0) : ra_C (g_Gs n f) g_sh 0 (d + 1) 109 [ra_I x0] σ (fun r9 s => r9 = .inl (some (ra_B (97 ≤ x0 ∧ x0 ≤ 122))) ∧ s = σ) := by
  refine ra_enter (nn := 0) mt_109 rfl (Nat.le_of_ble_eq_true rfl) rfl (fun h => absurd h (by decide +kernel)) ?_
  refine ra_load rfl rfl rfl rfl ?_
  refine ra_bipush rfl (by decide) ?_
  refine ra_iclt rfl rfl hx0 (by first | omega | (unfold ra_in at *; omega)) (fun h1 => ?_) (fun h1 => ?_)
  · refine ra_iconst rfl ?_
    exact ra_ireturn rfl (ra_okB (Or.inl rfl)) ⟨(by unfold ra_B; rw [if_neg (by omega)]), rfl⟩
  · refine ra_load rfl rfl rfl rfl ?_
    refine ra_bipush rfl (by decide) ?_
    refine ra_icgt rfl rfl hx0 (by first | omega | (unfold ra_in at *; omega)) (fun h2 => ?_) (fun h2 => ?_)
    · refine ra_iconst rfl ?_
      exact ra_ireturn rfl (ra_okB (Or.inl rfl)) ⟨(by unfold ra_B; rw [if_neg (by omega)]), rfl⟩
    · refine ra_iconst rfl ?_
      refine ra_goto rfl rfl ?_
      exact ra_ireturn rfl (ra_okB (Or.inr rfl)) ⟨(by unfold ra_B; rw [if_pos (by omega)]), rfl⟩
theorem s4_110 {n : Nat} {f : Nat → Int32} {d : Nat} {x0 : Int} {σ : ra_V} (hx0 : ra_in x0) : ra_C (g_Gs n f) g_sh 0 (d + 1) 110 [ra_I x0] σ (fun r9 s => r9 = .inl (some (ra_B (48 ≤ x0 ∧ x0 ≤ 57))) ∧ s = σ) := by
  refine ra_enter (nn := 0) mt_110 rfl (Nat.le_of_ble_eq_true rfl) rfl (fun h => absurd h (by decide +kernel)) ?_
  refine ra_load rfl rfl rfl rfl ?_
  refine ra_bipush rfl (by decide) ?_
  refine ra_iclt rfl rfl hx0 (by first | omega | (unfold ra_in at *; omega)) (fun h1 => ?_) (fun h1 => ?_)
  · refine ra_iconst rfl ?_
    exact ra_ireturn rfl (ra_okB (Or.inl rfl)) ⟨(by unfold ra_B; rw [if_neg (by omega)]), rfl⟩
  · refine ra_load rfl rfl rfl rfl ?_
    refine ra_bipush rfl (by decide) ?_
    refine ra_icgt rfl rfl hx0 (by first | omega | (unfold ra_in at *; omega)) (fun h2 => ?_) (fun h2 => ?_)
    · refine ra_iconst rfl ?_
      exact ra_ireturn rfl (ra_okB (Or.inl rfl)) ⟨(by unfold ra_B; rw [if_neg (by omega)]), rfl⟩
    · refine ra_iconst rfl ?_
      refine ra_goto rfl rfl ?_
      exact ra_ireturn rfl (ra_okB (Or.inr rfl)) ⟨(by unfold ra_B; rw [if_pos (by omega)]), rfl⟩
theorem l4_111_250 {n : Nat} {f : Nat → Int32} {d : Nat}  {σ : ra_V} (hB : x4TB σ B bn) (hps : ra_g σ 175 4 = (ps : Nat)) (hpl : ps ≤ bn) : ∀ (s : ra_V) (hF : Fr (175) (177) σ s) (hk0 : s (176) = σ (176)) (he7 : ra_g s 175 1 = ra_g σ 175 1 ∧ ra_g s 175 2 = ra_g σ 175 2 ∧ ra_g s 175 3 = ra_g σ 175 3 ∧ ra_g s 175 8 = ra_g σ 175 8 ∧ ra_g s 175 9 = ra_g σ 175 9 ∧ ra_g s 175 10 = ra_g σ 175 10 ∧ ra_g s 175 11 = ra_g σ 175 11) (hs : ra_g s 175 6 = (tx_a B bn ps : Nat) ∧ tx_a B bn ps < bn ∧ (tx_a B bn ps : Int) < ra_g s 175 4 ∧ ra_g s 175 4 ≤ bn) (hd : tx_le (B (tx_a B bn ps)) = false ∧ tx_di (B (tx_a B bn ps)) = true) (hw : ra_g s 175 4 = (tx_sp tx_di B bn (tx_a B bn ps) : Nat)) (hv : ra_g s 175 7 = tx_v B (tx_a B bn ps) (Nat.min 3 ((ra_g s 175 4).toNat - tx_a B bn ps))), ra_P (g_Gs n f) g_sh 0 (d + 1) g_m_X6_next 250 [some (.index (175)), none] [] s (fun r9 s => rV r9 ∧ Fr (175) (177) σ s ∧ s (176) = σ (176) ∧ (ra_g s 175 1 = ra_g σ 175 1 ∧ ra_g s 175 2 = ra_g σ 175 2 ∧ ra_g s 175 3 = ra_g σ 175 3 ∧ ra_g s 175 8 = ra_g σ 175 8 ∧ ra_g s 175 9 = ra_g σ 175 9 ∧ ra_g s 175 10 = ra_g σ 175 10 ∧ ra_g s 175 11 = ra_g σ 175 11) ∧ x4NXC B bn s (tx_a B bn ps)) := by
    intro s hF hk0 he7 hs hd hw hv
    have hB0 := hB
    obtain ⟨b1, b2, b3, b4⟩ := hB0
    refine ra_load rfl rfl rfl rfl ?_
    refine ra_load rfl rfl rfl rfl ?_
    refine ra_getI rfl lk_6_25 (Nat.zero_le _) sh_175 rfl ?_
    have hr31 : ra_in (ra_g s (175) 4) := (ra_in_g _ _ _)
    refine ra_load rfl rfl rfl rfl ?_
    refine ra_getI rfl lk_6_137 (Nat.zero_le _) sh_175 rfl ?_
    have hr32 : ra_in (ra_g s (175) 6) := (ra_in_g _ _ _)
    refine ra_isub rfl ?_
    refine ra_iconst rfl ?_
    refine ra_icle rfl rfl (by first | omega | (unfold ra_in at *; omega)) (by first | omega | (unfold ra_in at *; omega)) (fun h33 => ?_) (fun h33 => ?_)
    · refine ra_iconst rfl ?_
      refine ra_putI rfl lk_6_71 (Nat.zero_le _) sh_175 rfl rfl ?_
      refine ra_newU (by first | omega | (unfold ra_in at *; omega)) (fun s34 hs34 hp35 hp35o => ?_)
      have hp35_1 := hp35o 1 (by decide)
      have hp35_2 := hp35o 2 (by decide)
      have hp35_3 := hp35o 3 (by decide)
      have hp35_4 := hp35o 4 (by decide)
      have hp35_6 := hp35o 6 (by decide)
      have hp35_7 := hp35o 7 (by decide)
      have hp35_8 := hp35o 8 (by decide)
      have hp35_9 := hp35o 9 (by decide)
      have hp35_10 := hp35o 10 (by decide)
      have hp35_11 := hp35o 11 (by decide)
      have hF36 := Fr_tr (lo := 175) (hi := 177) hF hs34 (by omega)
      have hk37 : s34 (176) = σ (176) := (hs34 (176) (by omega)).trans hk0
      exact ra_return rfl rfl ⟨rfl, ⟨hF36, hk37, by omega, x4nxc_n (by omega) (by omega) (by omega) hd.1 hd.2 (by constructor <;> intro q <;> omega) (by rw [show tx_sp tx_di B bn (tx_a B bn ps) = (ra_g s 175 4).toNat by omega]; omega)⟩⟩
    · refine ra_iconst rfl ?_
      refine ra_goto rfl rfl ?_
      refine ra_putI rfl lk_6_71 (Nat.zero_le _) sh_175 rfl rfl ?_
      refine ra_newU (by first | omega | (unfold ra_in at *; omega)) (fun s38 hs38 hp39 hp39o => ?_)
      have hp39_1 := hp39o 1 (by decide)
      have hp39_2 := hp39o 2 (by decide)
      have hp39_3 := hp39o 3 (by decide)
      have hp39_4 := hp39o 4 (by decide)
      have hp39_6 := hp39o 6 (by decide)
      have hp39_7 := hp39o 7 (by decide)
      have hp39_8 := hp39o 8 (by decide)
      have hp39_9 := hp39o 9 (by decide)
      have hp39_10 := hp39o 10 (by decide)
      have hp39_11 := hp39o 11 (by decide)
      have hF40 := Fr_tr (lo := 175) (hi := 177) hF hs38 (by omega)
      have hk41 : s38 (176) = σ (176) := (hs38 (176) (by omega)).trans hk0
      exact ra_return rfl rfl ⟨rfl, ⟨hF40, hk41, by omega, x4nxc_n (by omega) (by omega) (by omega) hd.1 hd.2 (by constructor <;> intro q <;> omega) (by rw [show tx_sp tx_di B bn (tx_a B bn ps) = (ra_g s 175 4).toNat by omega]; omega)⟩⟩
theorem l4_111_176 {n : Nat} {f : Nat → Int32} {d : Nat}  {σ : ra_V} (hB : x4TB σ B bn) (hps : ra_g σ 175 4 = (ps : Nat)) (hpl : ps ≤ bn) : ∀ (nn : Nat) (s : ra_V) (hF : Fr (175) (177) σ s) (hk0 : s (176) = σ (176)) (he7 : ra_g s 175 1 = ra_g σ 175 1 ∧ ra_g s 175 2 = ra_g σ 175 2 ∧ ra_g s 175 3 = ra_g σ 175 3 ∧ ra_g s 175 8 = ra_g σ 175 8 ∧ ra_g s 175 9 = ra_g σ 175 9 ∧ ra_g s 175 10 = ra_g σ 175 10 ∧ ra_g s 175 11 = ra_g σ 175 11) (hq : 0 ≤ ra_g s 175 4 ∧ ra_g s 175 4 ≤ bn) (hs : ra_g s 175 6 = (tx_a B bn ps : Nat) ∧ tx_a B bn ps < bn ∧ (tx_a B bn ps : Int) < ra_g s 175 4) (hd : tx_le (B (tx_a B bn ps)) = false ∧ tx_di (B (tx_a B bn ps)) = true) (hw : tx_sp tx_di B bn (ra_g s 175 4).toNat = tx_sp tx_di B bn (tx_a B bn ps)) (hv : ra_g s 175 7 = tx_v B (tx_a B bn ps) (Nat.min 3 ((ra_g s 175 4).toNat - tx_a B bn ps))) (hb : 0 ≤ ra_g s 175 7 ∧ ra_g s 175 7 ≤ 999 ∧ (ra_g s 175 4 - ra_g s 175 6 ≤ 1 → ra_g s 175 7 ≤ 9) ∧ (ra_g s 175 4 - ra_g s 175 6 ≤ 2 → ra_g s 175 7 ≤ 99)) (hm : ((ra_g s 175 1 - ra_g s 175 4 : Int)).toNat < nn), ra_P (g_Gs n f) g_sh 0 (d + 1) g_m_X6_next 176 [some (.index (175)), none] [] s (fun r9 s => rV r9 ∧ Fr (175) (177) σ s ∧ s (176) = σ (176) ∧ (ra_g s 175 1 = ra_g σ 175 1 ∧ ra_g s 175 2 = ra_g σ 175 2 ∧ ra_g s 175 3 = ra_g σ 175 3 ∧ ra_g s 175 8 = ra_g σ 175 8 ∧ ra_g s 175 9 = ra_g σ 175 9 ∧ ra_g s 175 10 = ra_g σ 175 10 ∧ ra_g s 175 11 = ra_g σ 175 11) ∧ x4NXC B bn s (tx_a B bn ps)) := by
  intro nn
  induction nn with
  | zero => intro s hF hk0 he7 hq hs hd hw hv hb hm; exact absurd hm (Nat.not_lt_zero _)
  | succ nn ih =>
    intro s hF hk0 he7 hq hs hd hw hv hb hm
    have hB0 := hB
    obtain ⟨b1, b2, b3, b4⟩ := hB0
    refine ra_load rfl rfl rfl rfl ?_
    refine ra_getI rfl lk_6_25 (Nat.zero_le _) sh_175 rfl ?_
    have hr28 : ra_in (ra_g s (175) 4) := (ra_in_g _ _ _)
    refine ra_load rfl rfl rfl rfl ?_
    refine ra_getI rfl lk_6_22 (Nat.zero_le _) sh_175 rfl ?_
    have hr29 : ra_in (ra_g s (175) 1) := (ra_in_g _ _ _)
    refine ra_icge rfl rfl hr28 hr29 (fun h30 => ?_) (fun h30 => ?_)
    · exact ra_weak (by repeat' constructor) (l4_111_250 hB hps hpl s hF hk0 (by omega) (by omega) hd (by rw [← hw]; first | (rw [tx_sp_0 (by omega)]; omega) | (rw [tx_sp_e (x4di_n (by omega))]; omega)) hv)
    · refine ra_load rfl rfl rfl rfl ?_
      refine ra_load rfl rfl rfl rfl ?_
      refine ra_getI rfl lk_6_25 (Nat.zero_le _) sh_175 rfl ?_
      have hr42 : ra_in (ra_g s (175) 4) := (ra_in_g _ _ _)
      refine ra_cTp (s4_108 hr42 (x4TB_k (by omega) hk0 hB) (by first | assumption | rfl | omega)) rfl (ct_108 rfl lk_6_140 (Or.inl rfl) sh_175 (Nat.le_of_ble_eq_true rfl)) ?_
      have hr44 : ra_in (B (ra_g s (175) 4).toNat) := (x4TB_in (x4TB_k (by omega) hk0 hB))
      refine ra_cTp (s4_110 hr44) rfl (ct_110 rfl lk_6_147 (Or.inl rfl) (Nat.le_of_ble_eq_true rfl)) ?_
      refine ra_ifeqB rfl rfl (fun h46 => ?_) (fun h46 => ?_)
      · exact ra_weak (by repeat' constructor) (l4_111_250 hB hps hpl s hF hk0 (by omega) (by omega) hd (by rw [← hw]; first | (rw [tx_sp_0 (by omega)]; omega) | (rw [tx_sp_e (x4di_n (by omega))]; omega)) hv)
      · refine ra_load rfl rfl rfl rfl ?_
        refine ra_getI rfl lk_6_25 (Nat.zero_le _) sh_175 rfl ?_
        have hr47 : ra_in (ra_g s (175) 4) := (ra_in_g _ _ _)
        refine ra_load rfl rfl rfl rfl ?_
        refine ra_getI rfl lk_6_137 (Nat.zero_le _) sh_175 rfl ?_
        have hr48 : ra_in (ra_g s (175) 6) := (ra_in_g _ _ _)
        refine ra_isub rfl ?_
        refine ra_iconst rfl ?_
        refine ra_icge rfl rfl (by first | omega | (unfold ra_in at *; omega)) (by first | omega | (unfold ra_in at *; omega)) (fun h49 => ?_) (fun h49 => ?_)
        · refine ra_load rfl rfl rfl rfl ?_
          refine ra_dup rfl rfl ?_
          refine ra_getI rfl lk_6_25 (Nat.zero_le _) sh_175 rfl ?_
          have hr50 : ra_in (ra_g s (175) 4) := (ra_in_g _ _ _)
          refine ra_iconst rfl ?_
          refine ra_iadd rfl ?_
          refine ra_putI rfl lk_6_25 (Nat.zero_le _) sh_175 rfl rfl ?_
          refine ra_newU (by first | omega | (unfold ra_in at *; omega)) (fun s51 hs51 hp52 hp52o => ?_)
          have hp52_1 := hp52o 1 (by decide)
          have hp52_2 := hp52o 2 (by decide)
          have hp52_3 := hp52o 3 (by decide)
          have hp52_5 := hp52o 5 (by decide)
          have hp52_6 := hp52o 6 (by decide)
          have hp52_7 := hp52o 7 (by decide)
          have hp52_8 := hp52o 8 (by decide)
          have hp52_9 := hp52o 9 (by decide)
          have hp52_10 := hp52o 10 (by decide)
          have hp52_11 := hp52o 11 (by decide)
          have hF53 := Fr_tr (lo := 175) (hi := 177) hF hs51 (by omega)
          have hk54 : s51 (176) = σ (176) := (hs51 (176) (by omega)).trans hk0
          refine ra_goto rfl rfl ?_
          exact ra_weak (by repeat' constructor) (ih s51 hF53 hk54 (by omega) (by omega) (by omega) hd (by rw [show (ra_g s51 175 4).toNat = (ra_g s 175 4).toNat + 1 by omega]; exact (tx_sp_s (by omega) (x4di_y (by omega))).symm.trans hw) (by rw [show (ra_g s51 175 4).toNat - tx_a B bn ps = ((ra_g s 175 4).toNat - tx_a B bn ps) + 1 by omega]; have q := x4tv_n (x := ra_g s 175 7) (by omega) hv; omega) (by omega) (by first | omega | (unfold ra_in at *; omega)))
        · refine ra_load rfl rfl rfl rfl ?_
          refine ra_load rfl rfl rfl rfl ?_
          refine ra_getI rfl lk_6_58 (Nat.zero_le _) sh_175 rfl ?_
          have hr55 : ra_in (ra_g s (175) 7) := (ra_in_g _ _ _)
          refine ra_bipush rfl (by decide) ?_
          refine ra_imul rfl ?_
          refine ra_load rfl rfl rfl rfl ?_
          refine ra_load rfl rfl rfl rfl ?_
          refine ra_getI rfl lk_6_25 (Nat.zero_le _) sh_175 rfl ?_
          have hr56 : ra_in (ra_g s (175) 4) := (ra_in_g _ _ _)
          refine ra_cTp (s4_108 hr56 (x4TB_k (by omega) hk0 hB) (by first | assumption | rfl | omega)) rfl (ct_108 rfl lk_6_140 (Or.inl rfl) sh_175 (Nat.le_of_ble_eq_true rfl)) ?_
          have hr58 : ra_in (B (ra_g s (175) 4).toNat) := (x4TB_in (x4TB_k (by omega) hk0 hB))
          refine ra_iadd rfl ?_
          refine ra_bipush rfl (by decide) ?_
          refine ra_isub rfl ?_
          refine ra_putI rfl lk_6_58 (Nat.zero_le _) sh_175 rfl rfl ?_
          refine ra_newU (by first | omega | (unfold ra_in at *; omega)) (fun s59 hs59 hp60 hp60o => ?_)
          have hp60_1 := hp60o 1 (by decide)
          have hp60_2 := hp60o 2 (by decide)
          have hp60_3 := hp60o 3 (by decide)
          have hp60_4 := hp60o 4 (by decide)
          have hp60_5 := hp60o 5 (by decide)
          have hp60_6 := hp60o 6 (by decide)
          have hp60_8 := hp60o 8 (by decide)
          have hp60_9 := hp60o 9 (by decide)
          have hp60_10 := hp60o 10 (by decide)
          have hp60_11 := hp60o 11 (by decide)
          have hF61 := Fr_tr (lo := 175) (hi := 177) hF hs59 (by omega)
          have hk62 : s59 (176) = σ (176) := (hs59 (176) (by omega)).trans hk0
          refine ra_load rfl rfl rfl rfl ?_
          refine ra_dup rfl rfl ?_
          refine ra_getI rfl lk_6_25 (Nat.zero_le _) sh_175 rfl ?_
          have hr63 : ra_in (ra_g s59 (175) 4) := (ra_in_g _ _ _)
          refine ra_iconst rfl ?_
          refine ra_iadd rfl ?_
          refine ra_putI rfl lk_6_25 (Nat.zero_le _) sh_175 rfl rfl ?_
          refine ra_newU (by first | omega | (unfold ra_in at *; omega)) (fun s64 hs64 hp65 hp65o => ?_)
          have hp65_1 := hp65o 1 (by decide)
          have hp65_2 := hp65o 2 (by decide)
          have hp65_3 := hp65o 3 (by decide)
          have hp65_5 := hp65o 5 (by decide)
          have hp65_6 := hp65o 6 (by decide)
          have hp65_7 := hp65o 7 (by decide)
          have hp65_8 := hp65o 8 (by decide)
          have hp65_9 := hp65o 9 (by decide)
          have hp65_10 := hp65o 10 (by decide)
          have hp65_11 := hp65o 11 (by decide)
          have hF66 := Fr_tr (lo := 175) (hi := 177) hF61 hs64 (by omega)
          have hk67 : s64 (176) = σ (176) := (hs64 (176) (by omega)).trans hk62
          refine ra_goto rfl rfl ?_
          exact ra_weak (by repeat' constructor) (ih s64 hF66 hk67 (by omega) (by omega) (by omega) hd (by rw [show (ra_g s64 175 4).toNat = (ra_g s 175 4).toNat + 1 by omega]; exact (tx_sp_s (by omega) (x4di_y (by omega))).symm.trans hw) (by rw [show (ra_g s64 175 4).toNat - tx_a B bn ps = ((ra_g s 175 4).toNat - tx_a B bn ps) + 1 by omega]; have q := x4tv_y (x := ra_g s 175 7) (by omega) hv; rw [show tx_a B bn ps + ((ra_g s 175 4).toNat - tx_a B bn ps) = (ra_g s 175 4).toNat by omega] at q; omega) (by omega) (by first | omega | (unfold ra_in at *; omega)))
theorem l4_111_144 {n : Nat} {f : Nat → Int32} {d : Nat}  {σ : ra_V} (hB : x4TB σ B bn) (hps : ra_g σ 175 4 = (ps : Nat)) (hpl : ps ≤ bn) : ∀ (s : ra_V) (hF : Fr (175) (177) σ s) (hk0 : s (176) = σ (176)) (he7 : ra_g s 175 1 = ra_g σ 175 1 ∧ ra_g s 175 2 = ra_g σ 175 2 ∧ ra_g s 175 3 = ra_g σ 175 3 ∧ ra_g s 175 8 = ra_g σ 175 8 ∧ ra_g s 175 9 = ra_g σ 175 9 ∧ ra_g s 175 10 = ra_g σ 175 10 ∧ ra_g s 175 11 = ra_g σ 175 11) (hs : ra_g s 175 6 = (tx_a B bn ps : Nat) ∧ ra_g s 175 5 = 1 ∧ tx_a B bn ps < bn) (hl : tx_le (B (tx_a B bn ps)) = true) (hw : ra_g s 175 4 = (tx_sp tx_le B bn (tx_a B bn ps) : Nat)), ra_P (g_Gs n f) g_sh 0 (d + 1) g_m_X6_next 144 [none, none] [] s (fun r9 s => rV r9 ∧ Fr (175) (177) σ s ∧ s (176) = σ (176) ∧ (ra_g s 175 1 = ra_g σ 175 1 ∧ ra_g s 175 2 = ra_g σ 175 2 ∧ ra_g s 175 3 = ra_g σ 175 3 ∧ ra_g s 175 8 = ra_g σ 175 8 ∧ ra_g s 175 9 = ra_g σ 175 9 ∧ ra_g s 175 10 = ra_g σ 175 10 ∧ ra_g s 175 11 = ra_g σ 175 11) ∧ x4NXC B bn s (tx_a B bn ps)) := by
    intro s hF hk0 he7 hs hl hw
    have hB0 := hB
    obtain ⟨b1, b2, b3, b4⟩ := hB0
    exact ra_return rfl rfl ⟨rfl, ⟨hF, hk0, by omega, x4nxc_w (by omega) (by omega) (by omega) (by omega) hl⟩⟩
theorem l4_111_106 {n : Nat} {f : Nat → Int32} {d : Nat}  {σ : ra_V} (hB : x4TB σ B bn) (hps : ra_g σ 175 4 = (ps : Nat)) (hpl : ps ≤ bn) : ∀ (nn : Nat) (s : ra_V) (hF : Fr (175) (177) σ s) (hk0 : s (176) = σ (176)) (he7 : ra_g s 175 1 = ra_g σ 175 1 ∧ ra_g s 175 2 = ra_g σ 175 2 ∧ ra_g s 175 3 = ra_g σ 175 3 ∧ ra_g s 175 8 = ra_g σ 175 8 ∧ ra_g s 175 9 = ra_g σ 175 9 ∧ ra_g s 175 10 = ra_g σ 175 10 ∧ ra_g s 175 11 = ra_g σ 175 11) (hq : 0 ≤ ra_g s 175 4 ∧ ra_g s 175 4 ≤ bn) (hs : ra_g s 175 6 = (tx_a B bn ps : Nat) ∧ ra_g s 175 5 = 1 ∧ tx_a B bn ps < bn) (hl : tx_le (B (tx_a B bn ps)) = true) (hw : tx_sp tx_le B bn (ra_g s 175 4).toNat = tx_sp tx_le B bn (tx_a B bn ps)) (hm : ((ra_g s 175 1 - ra_g s 175 4 : Int)).toNat < nn), ra_P (g_Gs n f) g_sh 0 (d + 1) g_m_X6_next 106 [some (.index (175)), none] [] s (fun r9 s => rV r9 ∧ Fr (175) (177) σ s ∧ s (176) = σ (176) ∧ (ra_g s 175 1 = ra_g σ 175 1 ∧ ra_g s 175 2 = ra_g σ 175 2 ∧ ra_g s 175 3 = ra_g σ 175 3 ∧ ra_g s 175 8 = ra_g σ 175 8 ∧ ra_g s 175 9 = ra_g σ 175 9 ∧ ra_g s 175 10 = ra_g σ 175 10 ∧ ra_g s 175 11 = ra_g σ 175 11) ∧ x4NXC B bn s (tx_a B bn ps)) := by
  intro nn
  induction nn with
  | zero => intro s hF hk0 he7 hq hs hl hw hm; exact absurd hm (Nat.not_lt_zero _)
  | succ nn ih =>
    intro s hF hk0 he7 hq hs hl hw hm
    have hB0 := hB
    obtain ⟨b1, b2, b3, b4⟩ := hB0
    refine ra_load rfl rfl rfl rfl ?_
    refine ra_getI rfl lk_6_25 (Nat.zero_le _) sh_175 rfl ?_
    have hr81 : ra_in (ra_g s (175) 4) := (ra_in_g _ _ _)
    refine ra_load rfl rfl rfl rfl ?_
    refine ra_getI rfl lk_6_22 (Nat.zero_le _) sh_175 rfl ?_
    have hr82 : ra_in (ra_g s (175) 1) := (ra_in_g _ _ _)
    refine ra_icge rfl rfl hr81 hr82 (fun h83 => ?_) (fun h83 => ?_)
    · exact ra_weak (by repeat' constructor) (l4_111_144 hB hps hpl s hF hk0 (by omega) (by omega) hl (by rw [← hw]; first | (rw [tx_sp_0 (by omega)]; omega) | (rw [tx_sp_e (x4le_n (by omega))]; omega)))
    · refine ra_load rfl rfl rfl rfl ?_
      refine ra_load rfl rfl rfl rfl ?_
      refine ra_getI rfl lk_6_25 (Nat.zero_le _) sh_175 rfl ?_
      have hr84 : ra_in (ra_g s (175) 4) := (ra_in_g _ _ _)
      refine ra_cTp (s4_108 hr84 (x4TB_k (by omega) hk0 hB) (by first | assumption | rfl | omega)) rfl (ct_108 rfl lk_6_140 (Or.inl rfl) sh_175 (Nat.le_of_ble_eq_true rfl)) ?_
      have hr86 : ra_in (B (ra_g s (175) 4).toNat) := (x4TB_in (x4TB_k (by omega) hk0 hB))
      refine ra_cTp (s4_109 hr86) rfl (ct_109 rfl lk_6_144 (Or.inl rfl) (Nat.le_of_ble_eq_true rfl)) ?_
      refine ra_ifeqB rfl rfl (fun h88 => ?_) (fun h88 => ?_)
      · exact ra_weak (by repeat' constructor) (l4_111_144 hB hps hpl s hF hk0 (by omega) (by omega) hl (by rw [← hw]; first | (rw [tx_sp_0 (by omega)]; omega) | (rw [tx_sp_e (x4le_n (by omega))]; omega)))
      · refine ra_load rfl rfl rfl rfl ?_
        refine ra_dup rfl rfl ?_
        refine ra_getI rfl lk_6_25 (Nat.zero_le _) sh_175 rfl ?_
        have hr89 : ra_in (ra_g s (175) 4) := (ra_in_g _ _ _)
        refine ra_iconst rfl ?_
        refine ra_iadd rfl ?_
        refine ra_putI rfl lk_6_25 (Nat.zero_le _) sh_175 rfl rfl ?_
        refine ra_newU (by first | omega | (unfold ra_in at *; omega)) (fun s90 hs90 hp91 hp91o => ?_)
        have hp91_1 := hp91o 1 (by decide)
        have hp91_2 := hp91o 2 (by decide)
        have hp91_3 := hp91o 3 (by decide)
        have hp91_5 := hp91o 5 (by decide)
        have hp91_6 := hp91o 6 (by decide)
        have hp91_7 := hp91o 7 (by decide)
        have hp91_8 := hp91o 8 (by decide)
        have hp91_9 := hp91o 9 (by decide)
        have hp91_10 := hp91o 10 (by decide)
        have hp91_11 := hp91o 11 (by decide)
        have hF92 := Fr_tr (lo := 175) (hi := 177) hF hs90 (by omega)
        have hk93 : s90 (176) = σ (176) := (hs90 (176) (by omega)).trans hk0
        refine ra_goto rfl rfl ?_
        exact ra_weak (by repeat' constructor) (ih s90 hF92 hk93 (by omega) (by omega) (by omega) hl (by rw [show (ra_g s90 175 4).toNat = (ra_g s 175 4).toNat + 1 by omega]; exact (tx_sp_s (by omega) (x4le_y (by omega))).symm.trans hw) (by first | omega | (unfold ra_in at *; omega)))
theorem l4_111_50 {n : Nat} {f : Nat → Int32} {d : Nat}  {σ : ra_V} (hB : x4TB σ B bn) (hps : ra_g σ 175 4 = (ps : Nat)) (hpl : ps ≤ bn) : ∀ (s : ra_V) (hF : Fr (175) (177) σ s) (hk0 : s (176) = σ (176)) (he7 : ra_g s 175 1 = ra_g σ 175 1 ∧ ra_g s 175 2 = ra_g σ 175 2 ∧ ra_g s 175 3 = ra_g σ 175 3 ∧ ra_g s 175 8 = ra_g σ 175 8 ∧ ra_g s 175 9 = ra_g σ 175 9 ∧ ra_g s 175 10 = ra_g σ 175 10 ∧ ra_g s 175 11 = ra_g σ 175 11) (hq : 0 ≤ ra_g s 175 4 ∧ ra_g s 175 4 ≤ bn) (hz : tx_a B bn ps = (ra_g s 175 4).toNat), ra_P (g_Gs n f) g_sh 0 (d + 1) g_m_X6_next 50 [some (.index (175)), none] [] s (fun r9 s => rV r9 ∧ Fr (175) (177) σ s ∧ s (176) = σ (176) ∧ (ra_g s 175 1 = ra_g σ 175 1 ∧ ra_g s 175 2 = ra_g σ 175 2 ∧ ra_g s 175 3 = ra_g σ 175 3 ∧ ra_g s 175 8 = ra_g σ 175 8 ∧ ra_g s 175 9 = ra_g σ 175 9 ∧ ra_g s 175 10 = ra_g σ 175 10 ∧ ra_g s 175 11 = ra_g σ 175 11) ∧ x4NXC B bn s (tx_a B bn ps)) := by
    intro s hF hk0 he7 hq hz
    have hB0 := hB
    obtain ⟨b1, b2, b3, b4⟩ := hB0
    refine ra_load rfl rfl rfl rfl ?_
    refine ra_load rfl rfl rfl rfl ?_
    refine ra_getI rfl lk_6_25 (Nat.zero_le _) sh_175 rfl ?_
    have hr4 : ra_in (ra_g s (175) 4) := (ra_in_g _ _ _)
    refine ra_putI rfl lk_6_137 (Nat.zero_le _) sh_175 rfl rfl ?_
    refine ra_newU hr4 (fun s5 hs5 hp6 hp6o => ?_)
    have hp6_1 := hp6o 1 (by decide)
    have hp6_2 := hp6o 2 (by decide)
    have hp6_3 := hp6o 3 (by decide)
    have hp6_4 := hp6o 4 (by decide)
    have hp6_5 := hp6o 5 (by decide)
    have hp6_7 := hp6o 7 (by decide)
    have hp6_8 := hp6o 8 (by decide)
    have hp6_9 := hp6o 9 (by decide)
    have hp6_10 := hp6o 10 (by decide)
    have hp6_11 := hp6o 11 (by decide)
    have hF7 := Fr_tr (lo := 175) (hi := 177) hF hs5 (by omega)
    have hk8 : s5 (176) = σ (176) := (hs5 (176) (by omega)).trans hk0
    refine ra_load rfl rfl rfl rfl ?_
    refine ra_getI rfl lk_6_25 (Nat.zero_le _) sh_175 rfl ?_
    have hr9 : ra_in (ra_g s5 (175) 4) := (ra_in_g _ _ _)
    refine ra_load rfl rfl rfl rfl ?_
    refine ra_getI rfl lk_6_22 (Nat.zero_le _) sh_175 rfl ?_
    have hr10 : ra_in (ra_g s5 (175) 1) := (ra_in_g _ _ _)
    refine ra_iclt rfl rfl hr9 hr10 (fun h11 => ?_) (fun h11 => ?_)
    · refine ra_load rfl rfl rfl rfl ?_
      refine ra_load rfl rfl rfl rfl ?_
      refine ra_getI rfl lk_6_25 (Nat.zero_le _) sh_175 rfl ?_
      have hr12 : ra_in (ra_g s5 (175) 4) := (ra_in_g _ _ _)
      refine ra_cTp (s4_108 hr12 (x4TB_k (by omega) hk8 hB) (by first | assumption | rfl | omega)) rfl (ct_108 rfl lk_6_140 (Or.inl rfl) sh_175 (Nat.le_of_ble_eq_true rfl)) ?_
      have hr14 : ra_in (B (ra_g s5 (175) 4).toNat) := (x4TB_in (x4TB_k (by omega) hk8 hB))
      refine ra_store (L' := [_, _]) rfl rfl rfl (Nat.le_of_ble_eq_true rfl) rfl ?_
      refine ra_load rfl rfl rfl rfl ?_
      refine ra_dup rfl rfl ?_
      refine ra_getI rfl lk_6_25 (Nat.zero_le _) sh_175 rfl ?_
      have hr15 : ra_in (ra_g s5 (175) 4) := (ra_in_g _ _ _)
      refine ra_iconst rfl ?_
      refine ra_iadd rfl ?_
      refine ra_putI rfl lk_6_25 (Nat.zero_le _) sh_175 rfl rfl ?_
      refine ra_newU (by first | omega | (unfold ra_in at *; omega)) (fun s16 hs16 hp17 hp17o => ?_)
      have hp17_1 := hp17o 1 (by decide)
      have hp17_2 := hp17o 2 (by decide)
      have hp17_3 := hp17o 3 (by decide)
      have hp17_5 := hp17o 5 (by decide)
      have hp17_6 := hp17o 6 (by decide)
      have hp17_7 := hp17o 7 (by decide)
      have hp17_8 := hp17o 8 (by decide)
      have hp17_9 := hp17o 9 (by decide)
      have hp17_10 := hp17o 10 (by decide)
      have hp17_11 := hp17o 11 (by decide)
      have hF18 := Fr_tr (lo := 175) (hi := 177) hF7 hs16 (by omega)
      have hk19 : s16 (176) = σ (176) := (hs16 (176) (by omega)).trans hk8
      refine ra_load rfl rfl rfl rfl ?_
      refine ra_cTp (s4_109 hr14) rfl (ct_109 rfl lk_6_144 (Or.inl rfl) (Nat.le_of_ble_eq_true rfl)) ?_
      refine ra_ifeqB rfl rfl (fun h21 => ?_) (fun h21 => ?_)
      · refine ra_load rfl rfl rfl rfl ?_
        refine ra_cTp (s4_110 hr14) rfl (ct_110 rfl lk_6_147 (Or.inl rfl) (Nat.le_of_ble_eq_true rfl)) ?_
        refine ra_ifneB rfl rfl (fun h23 => ?_) (fun h23 => ?_)
        · have hd : tx_le (B (tx_a B bn ps)) = false ∧ tx_di (B (tx_a B bn ps)) = true := by rw [show tx_a B bn ps = (ra_g s5 (175) 4).toNat by omega]; exact ⟨x4le_n (by omega), x4di_y (by omega)⟩
          refine ra_load rfl rfl rfl rfl ?_
          refine ra_load rfl rfl rfl rfl ?_
          refine ra_bipush rfl (by decide) ?_
          refine ra_isub rfl ?_
          refine ra_putI rfl lk_6_58 (Nat.zero_le _) sh_175 rfl rfl ?_
          refine ra_newU (by first | omega | (unfold ra_in at *; omega)) (fun s24 hs24 hp25 hp25o => ?_)
          have hp25_1 := hp25o 1 (by decide)
          have hp25_2 := hp25o 2 (by decide)
          have hp25_3 := hp25o 3 (by decide)
          have hp25_4 := hp25o 4 (by decide)
          have hp25_5 := hp25o 5 (by decide)
          have hp25_6 := hp25o 6 (by decide)
          have hp25_8 := hp25o 8 (by decide)
          have hp25_9 := hp25o 9 (by decide)
          have hp25_10 := hp25o 10 (by decide)
          have hp25_11 := hp25o 11 (by decide)
          have hF26 := Fr_tr (lo := 175) (hi := 177) hF18 hs24 (by omega)
          have hk27 : s24 (176) = σ (176) := (hs24 (176) (by omega)).trans hk19
          exact ra_weak (by repeat' constructor) (l4_111_176 hB hps hpl _ s24 hF26 hk27 (by omega) (by omega) (by omega) hd (by rw [show (ra_g s24 175 4).toNat = tx_a B bn ps + 1 by omega]; exact (tx_sp_s (by omega) hd.2).symm) (by rw [show (ra_g s24 175 4).toNat - tx_a B bn ps = 1 by omega]; show _ = 10 * 0 + (B (tx_a B bn ps + 0) - 48); rw [Nat.add_zero, show tx_a B bn ps = (ra_g s5 (175) 4).toNat by omega]; omega) (by omega) (Nat.lt_succ_self _))
        · refine ra_load rfl rfl rfl rfl ?_
          refine ra_load rfl rfl rfl rfl ?_
          refine ra_bipush rfl (by decide) ?_
          refine ra_icne rfl rfl hr14 (by first | omega | (unfold ra_in at *; omega)) (fun h68 => ?_) (fun h68 => ?_)
          · refine ra_iconst rfl ?_
            refine ra_putI rfl lk_6_71 (Nat.zero_le _) sh_175 rfl rfl ?_
            refine ra_newU (by first | omega | (unfold ra_in at *; omega)) (fun s69 hs69 hp70 hp70o => ?_)
            have hp70_1 := hp70o 1 (by decide)
            have hp70_2 := hp70o 2 (by decide)
            have hp70_3 := hp70o 3 (by decide)
            have hp70_4 := hp70o 4 (by decide)
            have hp70_6 := hp70o 6 (by decide)
            have hp70_7 := hp70o 7 (by decide)
            have hp70_8 := hp70o 8 (by decide)
            have hp70_9 := hp70o 9 (by decide)
            have hp70_10 := hp70o 10 (by decide)
            have hp70_11 := hp70o 11 (by decide)
            have hF71 := Fr_tr (lo := 175) (hi := 177) hF18 hs69 (by omega)
            have hk72 : s69 (176) = σ (176) := (hs69 (176) (by omega)).trans hk19
            exact ra_return rfl rfl ⟨rfl, ⟨hF71, hk72, by omega, x4nxc_1 (by omega) (by omega) (by omega) (by rw [show tx_a B bn ps = (ra_g s5 (175) 4).toNat by omega]; exact x4le_n (by omega)) (by rw [show tx_a B bn ps = (ra_g s5 (175) 4).toNat by omega]; exact x4di_n (by omega)) (by rw [show tx_a B bn ps = (ra_g s5 (175) 4).toNat by omega]; constructor <;> intro q <;> omega)⟩⟩
          · refine ra_iconst rfl ?_
            refine ra_goto rfl rfl ?_
            refine ra_putI rfl lk_6_71 (Nat.zero_le _) sh_175 rfl rfl ?_
            refine ra_newU (by first | omega | (unfold ra_in at *; omega)) (fun s73 hs73 hp74 hp74o => ?_)
            have hp74_1 := hp74o 1 (by decide)
            have hp74_2 := hp74o 2 (by decide)
            have hp74_3 := hp74o 3 (by decide)
            have hp74_4 := hp74o 4 (by decide)
            have hp74_6 := hp74o 6 (by decide)
            have hp74_7 := hp74o 7 (by decide)
            have hp74_8 := hp74o 8 (by decide)
            have hp74_9 := hp74o 9 (by decide)
            have hp74_10 := hp74o 10 (by decide)
            have hp74_11 := hp74o 11 (by decide)
            have hF75 := Fr_tr (lo := 175) (hi := 177) hF18 hs73 (by omega)
            have hk76 : s73 (176) = σ (176) := (hs73 (176) (by omega)).trans hk19
            exact ra_return rfl rfl ⟨rfl, ⟨hF75, hk76, by omega, x4nxc_1 (by omega) (by omega) (by omega) (by rw [show tx_a B bn ps = (ra_g s5 (175) 4).toNat by omega]; exact x4le_n (by omega)) (by rw [show tx_a B bn ps = (ra_g s5 (175) 4).toNat by omega]; exact x4di_n (by omega)) (by rw [show tx_a B bn ps = (ra_g s5 (175) 4).toNat by omega]; constructor <;> intro q <;> omega)⟩⟩
      · have hl : tx_le (B (tx_a B bn ps)) = true := by rw [show tx_a B bn ps = (ra_g s5 (175) 4).toNat by omega]; exact x4le_y (by omega)
        refine ra_load rfl rfl rfl rfl ?_
        refine ra_iconst rfl ?_
        refine ra_putI rfl lk_6_71 (Nat.zero_le _) sh_175 rfl rfl ?_
        refine ra_newU (by first | omega | (unfold ra_in at *; omega)) (fun s77 hs77 hp78 hp78o => ?_)
        have hp78_1 := hp78o 1 (by decide)
        have hp78_2 := hp78o 2 (by decide)
        have hp78_3 := hp78o 3 (by decide)
        have hp78_4 := hp78o 4 (by decide)
        have hp78_6 := hp78o 6 (by decide)
        have hp78_7 := hp78o 7 (by decide)
        have hp78_8 := hp78o 8 (by decide)
        have hp78_9 := hp78o 9 (by decide)
        have hp78_10 := hp78o 10 (by decide)
        have hp78_11 := hp78o 11 (by decide)
        have hF79 := Fr_tr (lo := 175) (hi := 177) hF18 hs77 (by omega)
        have hk80 : s77 (176) = σ (176) := (hs77 (176) (by omega)).trans hk19
        exact ra_weak (by repeat' constructor) (l4_111_106 hB hps hpl _ s77 hF79 hk80 (by omega) (by omega) (by omega) hl (by rw [show (ra_g s77 175 4).toNat = tx_a B bn ps + 1 by omega]; exact (tx_sp_s (by omega) hl).symm) (Nat.lt_succ_self _))
    · refine ra_load rfl rfl rfl rfl ?_
      refine ra_iconst rfl ?_
      refine ra_putI rfl lk_6_71 (Nat.zero_le _) sh_175 rfl rfl ?_
      refine ra_newU (by first | omega | (unfold ra_in at *; omega)) (fun s94 hs94 hp95 hp95o => ?_)
      have hp95_1 := hp95o 1 (by decide)
      have hp95_2 := hp95o 2 (by decide)
      have hp95_3 := hp95o 3 (by decide)
      have hp95_4 := hp95o 4 (by decide)
      have hp95_6 := hp95o 6 (by decide)
      have hp95_7 := hp95o 7 (by decide)
      have hp95_8 := hp95o 8 (by decide)
      have hp95_9 := hp95o 9 (by decide)
      have hp95_10 := hp95o 10 (by decide)
      have hp95_11 := hp95o 11 (by decide)
      have hF96 := Fr_tr (lo := 175) (hi := 177) hF7 hs94 (by omega)
      have hk97 : s94 (176) = σ (176) := (hs94 (176) (by omega)).trans hk8
      exact ra_return rfl rfl ⟨rfl, ⟨hF96, hk97, by omega, x4nxc_0 (by omega) (by omega) (by omega) (by omega) (by omega)⟩⟩
theorem l4_111_0 {n : Nat} {f : Nat → Int32} {d : Nat}  {σ : ra_V} (hB : x4TB σ B bn) (hps : ra_g σ 175 4 = (ps : Nat)) (hpl : ps ≤ bn) : ∀ (nn : Nat) (s : ra_V) (hF : Fr (175) (177) σ s) (hk0 : s (176) = σ (176)) (he7 : ra_g s 175 1 = ra_g σ 175 1 ∧ ra_g s 175 2 = ra_g σ 175 2 ∧ ra_g s 175 3 = ra_g σ 175 3 ∧ ra_g s 175 8 = ra_g σ 175 8 ∧ ra_g s 175 9 = ra_g σ 175 9 ∧ ra_g s 175 10 = ra_g σ 175 10 ∧ ra_g s 175 11 = ra_g σ 175 11) (hq : 0 ≤ ra_g s 175 4 ∧ ra_g s 175 4 ≤ bn) (ha : tx_a B bn (ra_g s 175 4).toNat = tx_a B bn ps) (hm : ((ra_g s 175 1 - ra_g s 175 4 : Int)).toNat < nn), ra_P (g_Gs n f) g_sh 0 (d + 1) g_m_X6_next 0 [some (.index (175)), none] [] s (fun r9 s => rV r9 ∧ Fr (175) (177) σ s ∧ s (176) = σ (176) ∧ (ra_g s 175 1 = ra_g σ 175 1 ∧ ra_g s 175 2 = ra_g σ 175 2 ∧ ra_g s 175 3 = ra_g σ 175 3 ∧ ra_g s 175 8 = ra_g σ 175 8 ∧ ra_g s 175 9 = ra_g σ 175 9 ∧ ra_g s 175 10 = ra_g σ 175 10 ∧ ra_g s 175 11 = ra_g σ 175 11) ∧ x4NXC B bn s (tx_a B bn ps)) := by
  intro nn
  induction nn with
  | zero => intro s hF hk0 he7 hq ha hm; exact absurd hm (Nat.not_lt_zero _)
  | succ nn ih =>
    intro s hF hk0 he7 hq ha hm
    have hB0 := hB
    obtain ⟨b1, b2, b3, b4⟩ := hB0
    refine ra_load rfl rfl rfl rfl ?_
    refine ra_getI rfl lk_6_25 (Nat.zero_le _) sh_175 rfl ?_
    have hr1 : ra_in (ra_g s (175) 4) := (ra_in_g _ _ _)
    refine ra_load rfl rfl rfl rfl ?_
    refine ra_getI rfl lk_6_22 (Nat.zero_le _) sh_175 rfl ?_
    have hr2 : ra_in (ra_g s (175) 1) := (ra_in_g _ _ _)
    refine ra_icge rfl rfl hr1 hr2 (fun h3 => ?_) (fun h3 => ?_)
    · exact ra_weak (by repeat' constructor) (l4_111_50 hB hps hpl s hF hk0 (by omega) (by omega) (ha.symm.trans (by first | exact tx_sp_0 (by omega) | exact tx_sp_e (x4bl_n (by omega) (by omega)))))
    · refine ra_load rfl rfl rfl rfl ?_
      refine ra_load rfl rfl rfl rfl ?_
      refine ra_getI rfl lk_6_25 (Nat.zero_le _) sh_175 rfl ?_
      have hr98 : ra_in (ra_g s (175) 4) := (ra_in_g _ _ _)
      refine ra_cTp (s4_108 hr98 (x4TB_k (by omega) hk0 hB) (by first | assumption | rfl | omega)) rfl (ct_108 rfl lk_6_140 (Or.inl rfl) sh_175 (Nat.le_of_ble_eq_true rfl)) ?_
      have hr100 : ra_in (B (ra_g s (175) 4).toNat) := (x4TB_in (x4TB_k (by omega) hk0 hB))
      refine ra_bipush rfl (by decide) ?_
      refine ra_iceq rfl rfl hr100 (by first | omega | (unfold ra_in at *; omega)) (fun h101 => ?_) (fun h101 => ?_)
      · refine ra_load rfl rfl rfl rfl ?_
        refine ra_dup rfl rfl ?_
        refine ra_getI rfl lk_6_25 (Nat.zero_le _) sh_175 rfl ?_
        have hr102 : ra_in (ra_g s (175) 4) := (ra_in_g _ _ _)
        refine ra_iconst rfl ?_
        refine ra_iadd rfl ?_
        refine ra_putI rfl lk_6_25 (Nat.zero_le _) sh_175 rfl rfl ?_
        refine ra_newU (by first | omega | (unfold ra_in at *; omega)) (fun s103 hs103 hp104 hp104o => ?_)
        have hp104_1 := hp104o 1 (by decide)
        have hp104_2 := hp104o 2 (by decide)
        have hp104_3 := hp104o 3 (by decide)
        have hp104_5 := hp104o 5 (by decide)
        have hp104_6 := hp104o 6 (by decide)
        have hp104_7 := hp104o 7 (by decide)
        have hp104_8 := hp104o 8 (by decide)
        have hp104_9 := hp104o 9 (by decide)
        have hp104_10 := hp104o 10 (by decide)
        have hp104_11 := hp104o 11 (by decide)
        have hF105 := Fr_tr (lo := 175) (hi := 177) hF hs103 (by omega)
        have hk106 : s103 (176) = σ (176) := (hs103 (176) (by omega)).trans hk0
        refine ra_goto rfl rfl ?_
        exact ra_weak (by repeat' constructor) (ih s103 hF105 hk106 (by omega) (by omega) (by rw [show (ra_g s103 175 4).toNat = (ra_g s 175 4).toNat + 1 by omega]; exact (tx_sp_s (by omega) (x4bl_y (by omega))).symm.trans ha) (by first | omega | (unfold ra_in at *; omega)))
      · refine ra_load rfl rfl rfl rfl ?_
        refine ra_load rfl rfl rfl rfl ?_
        refine ra_getI rfl lk_6_25 (Nat.zero_le _) sh_175 rfl ?_
        have hr107 : ra_in (ra_g s (175) 4) := (ra_in_g _ _ _)
        refine ra_cTp (s4_108 hr107 (x4TB_k (by omega) hk0 hB) (by first | assumption | rfl | omega)) rfl (ct_108 rfl lk_6_140 (Or.inl rfl) sh_175 (Nat.le_of_ble_eq_true rfl)) ?_
        have hr109 : ra_in (B (ra_g s (175) 4).toNat) := (x4TB_in (x4TB_k (by omega) hk0 hB))
        refine ra_bipush rfl (by decide) ?_
        refine ra_icne rfl rfl hr109 (by first | omega | (unfold ra_in at *; omega)) (fun h110 => ?_) (fun h110 => ?_)
        · exact ra_weak (by repeat' constructor) (l4_111_50 hB hps hpl s hF hk0 (by omega) (by omega) (ha.symm.trans (by first | exact tx_sp_0 (by omega) | exact tx_sp_e (x4bl_n (by omega) (by omega)))))
        · refine ra_load rfl rfl rfl rfl ?_
          refine ra_dup rfl rfl ?_
          refine ra_getI rfl lk_6_25 (Nat.zero_le _) sh_175 rfl ?_
          have hr111 : ra_in (ra_g s (175) 4) := (ra_in_g _ _ _)
          refine ra_iconst rfl ?_
          refine ra_iadd rfl ?_
          refine ra_putI rfl lk_6_25 (Nat.zero_le _) sh_175 rfl rfl ?_
          refine ra_newU (by first | omega | (unfold ra_in at *; omega)) (fun s112 hs112 hp113 hp113o => ?_)
          have hp113_1 := hp113o 1 (by decide)
          have hp113_2 := hp113o 2 (by decide)
          have hp113_3 := hp113o 3 (by decide)
          have hp113_5 := hp113o 5 (by decide)
          have hp113_6 := hp113o 6 (by decide)
          have hp113_7 := hp113o 7 (by decide)
          have hp113_8 := hp113o 8 (by decide)
          have hp113_9 := hp113o 9 (by decide)
          have hp113_10 := hp113o 10 (by decide)
          have hp113_11 := hp113o 11 (by decide)
          have hF114 := Fr_tr (lo := 175) (hi := 177) hF hs112 (by omega)
          have hk115 : s112 (176) = σ (176) := (hs112 (176) (by omega)).trans hk0
          refine ra_goto rfl rfl ?_
          exact ra_weak (by repeat' constructor) (ih s112 hF114 hk115 (by omega) (by omega) (by rw [show (ra_g s112 175 4).toNat = (ra_g s 175 4).toNat + 1 by omega]; exact (tx_sp_s (by omega) (x4bl_y (by omega))).symm.trans ha) (by first | omega | (unfold ra_in at *; omega)))
theorem s4_111 {n : Nat} {f : Nat → Int32} {d : Nat}  {σ : ra_V} (hB : x4TB σ B bn) (hps : ra_g σ 175 4 = (ps : Nat)) (hpl : ps ≤ bn) : ra_C (g_Gs n f) g_sh 0 (d + 2) 111 [.index (175)] σ (fun r9 s => rV r9 ∧ Fr (175) (177) σ s ∧ s (176) = σ (176) ∧ (ra_g s 175 1 = ra_g σ 175 1 ∧ ra_g s 175 2 = ra_g σ 175 2 ∧ ra_g s 175 3 = ra_g σ 175 3 ∧ ra_g s 175 8 = ra_g σ 175 8 ∧ ra_g s 175 9 = ra_g σ 175 9 ∧ ra_g s 175 10 = ra_g σ 175 10 ∧ ra_g s 175 11 = ra_g σ 175 11) ∧ x4NXC B bn s (tx_a B bn ps)) := by
  refine ra_enter (nn := 1) mt_111 rfl (Nat.le_of_ble_eq_true rfl) rfl (fun h => absurd h (by decide +kernel)) ?_
  have hB0 := hB
  obtain ⟨b1, b2, b3, b4⟩ := hB0
  exact ra_weak (by repeat' constructor) (l4_111_0 hB hps hpl _ σ Fr_rf rfl (by omega) (by omega) (by rw [show (ra_g σ 175 4).toNat = ps by omega]) (Nat.lt_succ_self _))
end
end
