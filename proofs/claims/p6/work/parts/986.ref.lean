/-! the reference: what its methods do (printed by wip/gen/ref.py) -/
section RB
theorem lp_328_33 {n : Nat} {f : Nat → Int32} {d : Nat}  {σ : ra_V} (hw : WF σ) : ∀ (nn : Nat) (v1 : Int) (v2 : Int) (v3 : Int) (s : ra_V) (hv1_0 : 0 ≤ v1 ∧ v1 ≤ 8) (hv2_0 : ra_in v2) (hv3_0 : 0 ≤ v3) (hv3_1 : v3 ≤ v1) (hF : Fr (180) (190) σ s) (hk0 : s (181) = σ (181)) (hk1 : s (182) = σ (182)) (hk2 : s (183) = σ (183)) (hk3 : s (184) = σ (184)) (hk4 : s (187) = σ (187)) (hws : WF s) (hex : ∀ p, 0 ≤ p → p < 8 → wq s p 0 = wq σ p 0) (hln : ∀ k : Nat, (k : Int) < v1 → 0 ≤ ra_g s 189 k ∧ ra_g s 189 k < 8 ∧ wq σ (ra_g s 189 k) 0 = 1) (hm : ((v1 - v3 : Int)).toNat < nn), ra_P (g_Gs n f) g_sh 0 (d + 10) g_m_X8_compacts 33 [some (.index (179)), some (ra_I v1), some (ra_I v2), some (ra_I v3), none] [] s (fun r s => rI r ∧ Fr (180) (190) σ s ∧ s (181) = σ (181) ∧ s (182) = σ (182) ∧ s (183) = σ (183) ∧ s (184) = σ (184) ∧ s (187) = σ (187) ∧ WF s) := by
  intro nn
  induction nn with
  | zero => intro v1 v2 v3 s hv1_0 hv2_0 hv3_0 hv3_1 hF hk0 hk1 hk2 hk3 hk4 hws hex hln hm; exact absurd hm (Nat.not_lt_zero _)
  | succ nn ih =>
    intro v1 v2 v3 s hv1_0 hv2_0 hv3_0 hv3_1 hF hk0 hk1 hk2 hk3 hk4 hws hex hln hm
    have hw1 := WF_a hws
    unfold WFa at hw1
    refine ra_load rfl rfl rfl rfl ?_
    refine ra_load rfl rfl rfl rfl ?_
    refine ra_icge rfl rfl (by first | omega | (unfold ra_in at *; omega)) (by first | omega | (unfold ra_in at *; omega)) (fun h4 => ?_) (fun h4 => ?_)
    · refine ra_load rfl rfl rfl rfl ?_
      exact ra_ireturn rfl rfl ⟨⟨_, (by first | omega | (unfold ra_in at *; omega)), rfl⟩, ⟨hF, hk0, hk1, hk2, hk3, hk4, hws⟩⟩
    · refine ra_load rfl rfl rfl rfl ?_
      refine ra_load rfl rfl rfl rfl ?_
      refine ra_getR rfl lk_8_41 (Nat.zero_le _) sh_179 rfl ?_
      refine ra_load rfl rfl rfl rfl ?_
      refine ra_iaload rfl sh_189 rfl (by decide) (by first | omega | (unfold ra_in at *; omega)) (by first | omega | (unfold ra_in at *; omega)) ?_
      have hr5 : ra_in (ra_g s (189) v3.toNat) := (ra_in_g _ _ _)
      refine ra_cIPp (sp_243 hr5 hws (lnp_ hln hex v3 (by omega))) rfl (ct_243 rfl lk_8_404 (Or.inl rfl) sh_179 (Nat.le_of_ble_eq_true rfl)) (fun z7 hz7 hz7p => ?_)
      refine ra_store (L' := [_, _, _, _, _]) rfl rfl rfl (Nat.le_of_ble_eq_true rfl) rfl ?_
      refine ra_load rfl rfl rfl rfl ?_
      refine ra_iconst rfl ?_
      refine ra_icne rfl rfl hz7 (by first | omega | (unfold ra_in at *; omega)) (fun h8 => ?_) (fun h8 => ?_)
      · refine ra_load rfl rfl rfl rfl ?_
        refine ra_load rfl rfl rfl rfl ?_
        refine ra_getR rfl lk_8_41 (Nat.zero_le _) sh_179 rfl ?_
        refine ra_load rfl rfl rfl rfl ?_
        refine ra_iaload rfl sh_189 rfl (by decide) (by first | omega | (unfold ra_in at *; omega)) (by first | omega | (unfold ra_in at *; omega)) ?_
        have hr9 : ra_in (ra_g s (189) v3.toNat) := (ra_in_g _ _ _)
        refine ra_load rfl rfl rfl rfl ?_
        refine ra_cV (sp_239 hr9 hz7 hws (lnp_ hln hex v3 (by omega)) (mok_of hz7p (by omega))) rfl (ct_239 rfl lk_8_391 (Or.inl rfl) sh_179 (Nat.le_of_ble_eq_true rfl)) (fun s10 hs10 => ?_)
        obtain ⟨hf11, he12, he13, he14⟩ := hs10
        have hF15 := Fr_tr (lo := 180) (hi := 190) hF hf11 (by omega)
        have hk16 : s10 (181) = σ (181) := (hf11 (181) (by omega)).trans hk0
        have hk17 : s10 (182) = σ (182) := (hf11 (182) (by omega)).trans hk1
        have hk18 : s10 (183) = σ (183) := (hf11 (183) (by omega)).trans hk2
        have hk19 : s10 (184) = σ (184) := (hf11 (184) (by omega)).trans hk3
        have hk20 : s10 (187) = σ (187) := (hf11 (187) (by omega)).trans hk4
        refine ra_load rfl rfl rfl rfl ?_
        refine ra_load rfl rfl rfl rfl ?_
        refine ra_load rfl rfl rfl rfl ?_
        refine ra_cIp (sp_234 (MV_f he12 (by have := he13; have a := hln v3.toNat (by omega); omega))) rfl (ct_234 rfl lk_8_394 (Or.inl rfl) sh_179 (Nat.le_of_ble_eq_true rfl)) (fun z22 hz22 => ?_)
        refine ra_cI (sp_241 hz22 he12) rfl (ct_241 rfl lk_8_399 (Or.inl rfl) sh_179 (Nat.le_of_ble_eq_true rfl)) (fun z24 s23  hz24 hs23 => ?_)
        obtain ⟨hf25, he26, he27⟩ := hs23
        have hF28 := Fr_tr (lo := 180) (hi := 190) hF15 hf25 (by omega)
        have hk29 : s23 (181) = σ (181) := (hf25 (181) (by omega)).trans hk16
        have hk30 : s23 (182) = σ (182) := (hf25 (182) (by omega)).trans hk17
        have hk31 : s23 (183) = σ (183) := (hf25 (183) (by omega)).trans hk18
        have hk32 : s23 (184) = σ (184) := (hf25 (184) (by omega)).trans hk19
        have hk33 : s23 (187) = σ (187) := (hf25 (187) (by omega)).trans hk20
        refine ra_ifle rfl rfl hz24 (fun h34 => ?_) (fun h34 => ?_)
        · refine ra_iconst rfl ?_
          refine ra_iadd rfl ?_
          refine ra_gen (fun z35 hz35 => ?_)
          refine ra_store (L' := [_, _, _, _, _]) rfl rfl rfl (Nat.le_of_ble_eq_true rfl) rfl ?_
          refine ra_iinc (L' := [_, _, _, _, _]) rfl rfl (Nat.le_of_ble_eq_true rfl) rfl ?_
          refine ra_goto rfl rfl ?_
          exact ra_weak (by repeat' constructor) (ih v1 z35 (v3 + 1) s23 (by first | omega | (unfold ra_in at *; omega)) hz35 (by first | omega | (unfold ra_in at *; omega)) (by first | omega | (unfold ra_in at *; omega)) hF28 hk29 hk30 hk31 hk32 hk33 he26 (fun p p0 p1 => ((he27 p p0 p1).trans ((he14 p p0 p1).trans (hex p p0 p1)))) (ln_k ((hf25 189 (by omega)).trans (hf11 189 (by omega))) hln) (by first | omega | (unfold ra_in at *; omega)))
        · refine ra_iconst rfl ?_
          refine ra_goto rfl rfl ?_
          refine ra_iadd rfl ?_
          refine ra_gen (fun z36 hz36 => ?_)
          refine ra_store (L' := [_, _, _, _, _]) rfl rfl rfl (Nat.le_of_ble_eq_true rfl) rfl ?_
          refine ra_iinc (L' := [_, _, _, _, _]) rfl rfl (Nat.le_of_ble_eq_true rfl) rfl ?_
          refine ra_goto rfl rfl ?_
          exact ra_weak (by repeat' constructor) (ih v1 z36 (v3 + 1) s23 (by first | omega | (unfold ra_in at *; omega)) hz36 (by first | omega | (unfold ra_in at *; omega)) (by first | omega | (unfold ra_in at *; omega)) hF28 hk29 hk30 hk31 hk32 hk33 he26 (fun p p0 p1 => ((he27 p p0 p1).trans ((he14 p p0 p1).trans (hex p p0 p1)))) (ln_k ((hf25 189 (by omega)).trans (hf11 189 (by omega))) hln) (by first | omega | (unfold ra_in at *; omega)))
      · refine ra_goto rfl rfl ?_
        refine ra_iinc (L' := [_, _, _, _, _]) rfl rfl (Nat.le_of_ble_eq_true rfl) rfl ?_
        refine ra_goto rfl rfl ?_
        exact ra_weak (by repeat' constructor) (ih v1 v2 (v3 + 1) s (by first | omega | (unfold ra_in at *; omega)) (by first | omega | (unfold ra_in at *; omega)) (by first | omega | (unfold ra_in at *; omega)) (by first | omega | (unfold ra_in at *; omega)) hF hk0 hk1 hk2 hk3 hk4 hws (fun p p0 p1 => (hex p p0 p1)) hln (by first | omega | (unfold ra_in at *; omega)))
theorem lp_328_9 {n : Nat} {f : Nat → Int32} {d : Nat}  {σ : ra_V} (hw : WF σ) : ∀ (nn : Nat) (v1 : Int) (v3 : Int) (s : ra_V) (hv1_0 : v1 = ct σ (-1)) (hv1_1 : 0 ≤ v1 ∧ v1 ≤ 8) (hv3_0 : 0 ≤ v3) (hv3_1 : v3 ≤ v1) (hF : Fr (180) (190) σ s) (hk0 : s (180) = σ (180)) (hk1 : s (181) = σ (181)) (hk2 : s (182) = σ (182)) (hk3 : s (183) = σ (183)) (hk4 : s (184) = σ (184)) (hk5 : s (187) = σ (187)) (hln : ∀ k : Nat, (k : Int) < v3 → 0 ≤ ra_g s 189 k ∧ ra_g s 189 k < 8 ∧ wq σ (ra_g s 189 k) 0 = 1) (hm : ((v1 - v3 : Int)).toNat < nn), ra_P (g_Gs n f) g_sh 0 (d + 10) g_m_X8_compacts 9 [some (.index (179)), some (ra_I v1), some (ra_I (0)), some (ra_I v3), none] [] s (fun r s => rI r ∧ Fr (180) (190) σ s ∧ s (181) = σ (181) ∧ s (182) = σ (182) ∧ s (183) = σ (183) ∧ s (184) = σ (184) ∧ s (187) = σ (187) ∧ WF s) := by
  intro nn
  induction nn with
  | zero => intro v1 v3 s hv1_0 hv1_1 hv3_0 hv3_1 hF hk0 hk1 hk2 hk3 hk4 hk5 hln hm; exact absurd hm (Nat.not_lt_zero _)
  | succ nn ih =>
    intro v1 v3 s hv1_0 hv1_1 hv3_0 hv3_1 hF hk0 hk1 hk2 hk3 hk4 hk5 hln hm
    refine ra_load rfl rfl rfl rfl ?_
    refine ra_load rfl rfl rfl rfl ?_
    refine ra_icge rfl rfl (by first | omega | (unfold ra_in at *; omega)) (by first | omega | (unfold ra_in at *; omega)) (fun h3 => ?_) (fun h3 => ?_)
    · refine ra_iconst rfl ?_
      refine ra_store (L' := [_, _, _, _, _]) rfl rfl rfl (Nat.le_of_ble_eq_true rfl) rfl ?_
      exact ra_weak (by repeat' constructor) (lp_328_33 hw _ v1 (0) (0) s (by first | omega | (unfold ra_in at *; omega)) (by first | omega | (unfold ra_in at *; omega)) (by first | omega | (unfold ra_in at *; omega)) (by first | omega | (unfold ra_in at *; omega)) hF hk1 hk2 hk3 hk4 hk5 (WF_k hk0 hw) (fun p p0 p1 => wq_k hk0) (fun k hk => hln k (by omega)) (Nat.lt_succ_self _))
    · refine ra_load rfl rfl rfl rfl ?_
      refine ra_getR rfl lk_8_41 (Nat.zero_le _) sh_179 rfl ?_
      refine ra_load rfl rfl rfl rfl ?_
      refine ra_load rfl rfl rfl rfl ?_
      refine ra_load rfl rfl rfl rfl ?_
      refine ra_cIPp (sq_278 (by first | omega | (unfold ra_in at *; omega)) (WF_k hk0 hw) (by rw [ct_k hk0]; omega)) rfl (ct_278 rfl lk_8_336 (Or.inl rfl) sh_179 (Nat.le_of_ble_eq_true rfl)) (fun z38 hz38 hz38p => ?_)
      have lnx := sta_k hk0 hz38p
      refine ra_iastore rfl sh_189 rfl (by decide) (by first | omega | (unfold ra_in at *; omega)) (by first | omega | (unfold ra_in at *; omega)) ?_
      refine ra_newR hz38 (fun s39 hs39 hs39v hs39o => ?_)
      have hF40 := Fr_tr (lo := 180) (hi := 190) hF hs39 (by omega)
      have hk41 : s39 (180) = σ (180) := (hs39 (180) (by omega)).trans hk0
      have hk42 : s39 (181) = σ (181) := (hs39 (181) (by omega)).trans hk1
      have hk43 : s39 (182) = σ (182) := (hs39 (182) (by omega)).trans hk2
      have hk44 : s39 (183) = σ (183) := (hs39 (183) (by omega)).trans hk3
      have hk45 : s39 (184) = σ (184) := (hs39 (184) (by omega)).trans hk4
      have hk46 : s39 (187) = σ (187) := (hs39 (187) (by omega)).trans hk5
      refine ra_iinc (L' := [_, _, _, _, _]) rfl rfl (Nat.le_of_ble_eq_true rfl) rfl ?_
      refine ra_goto rfl rfl ?_
      exact ra_weak (by repeat' constructor) (ih v1 (v3 + 1) s39 (by first | omega | (unfold ra_in at *; omega)) (by first | omega | (unfold ra_in at *; omega)) (by first | omega | (unfold ra_in at *; omega)) (by first | omega | (unfold ra_in at *; omega)) hF40 hk41 hk42 hk43 hk44 hk45 hk46 (fun k hk => if e : k = v3.toNat then (by rw [e, hs39v]; exact lnx) else (by rw [hs39o k e]; exact hln k (by omega))) (by first | omega | (unfold ra_in at *; omega)))
theorem sp_328 {n : Nat} {f : Nat → Int32} {d : Nat}  {σ : ra_V} (hw : WF σ) : ra_C (g_Gs n f) g_sh 0 (d + 11) 328 [.index (179)] σ (fun r s => rI r ∧ Fr (180) (190) σ s ∧ s (181) = σ (181) ∧ s (182) = σ (182) ∧ s (183) = σ (183) ∧ s (184) = σ (184) ∧ s (187) = σ (187) ∧ WF s) := by
  refine ra_enter (nn := 4) mt_328 rfl (Nat.le_of_ble_eq_true rfl) rfl (fun h => absurd h (by decide +kernel)) ?_
  have hw0 := WF_a hw
  unfold WFa at hw0
  have hcb := ct_b (σ := σ) (c := -1)
  refine ra_load rfl rfl rfl rfl ?_
  refine ra_cIPp (sq_202 (WF_k rfl hw)) rfl (ct_202 rfl lk_8_298 (Or.inl rfl) sh_179 (Nat.le_of_ble_eq_true rfl)) (fun z2 hz2 hz2p => ?_)
  refine ra_store (L' := [_, _, _, _, _]) rfl rfl rfl (Nat.le_of_ble_eq_true rfl) rfl ?_
  refine ra_iconst rfl ?_
  refine ra_store (L' := [_, _, _, _, _]) rfl rfl rfl (Nat.le_of_ble_eq_true rfl) rfl ?_
  refine ra_iconst rfl ?_
  refine ra_store (L' := [_, _, _, _, _]) rfl rfl rfl (Nat.le_of_ble_eq_true rfl) rfl ?_
  exact ra_weak (by repeat' constructor) (lp_328_9 hw _ z2 (0) σ (by first | omega | (unfold ra_in at *; omega)) (by first | omega | (unfold ra_in at *; omega)) (by first | omega | (unfold ra_in at *; omega)) (by first | omega | (unfold ra_in at *; omega)) Fr_rf rfl rfl rfl rfl rfl rfl (fun k hk => by omega) (Nat.lt_succ_self _))
theorem sp_329 {n : Nat} {f : Nat → Int32} {d : Nat}  {σ : ra_V} (hw : WF σ) (hpw : PW σ) : ra_C (g_Gs n f) g_sh 0 (d + 12) 329 [.index (179)] σ (fun r s => rI r ∧ Fr (179) (191) σ s ∧ s (183) = σ (183) ∧ s (187) = σ (187) ∧ (∀ a, a ≠ 5 → a ≠ 7 → a ≠ 10 → ra_g s 179 a = ra_g σ 179 a) ∧ WF s ∧ PW s) := by
  refine ra_enter (nn := 0) mt_329 rfl (Nat.le_of_ble_eq_true rfl) rfl (fun h => absurd h (by decide +kernel)) ?_
  have hw0 := WF_a hw
  unfold WFa at hw0
  refine ra_load rfl rfl rfl rfl ?_
  refine ra_iconst rfl ?_
  refine ra_putI rfl lk_8_51 (Nat.zero_le _) sh_179 rfl rfl ?_
  refine ra_newU (by first | omega | (unfold ra_in at *; omega)) (fun s1 hs1 hp2 hp2o => ?_)
  have hp2_99 := hp2o 99 (by decide)
  have hF3 := Fr_tr (lo := 179) (hi := 191) Fr_rf hs1 (by omega)
  have hk4 : s1 (180) = σ (180) := (hs1 (180) (by omega))
  have hk5 : s1 (183) = σ (183) := (hs1 (183) (by omega))
  have hk6 : s1 (184) = σ (184) := (hs1 (184) (by omega))
  have hk7 : s1 (187) = σ (187) := (hs1 (187) (by omega))
  have hg8 : ∀ a, a ≠ 5 → a ≠ 7 → a ≠ 10 → ra_g s1 179 a = ra_g σ 179 a := fun a h5 h7 h10 => ((fun a h7 h10 => hp2o a h7) a h7 h10).trans ((fun _ _ _ _ => rfl) a h5 h7 h10)
  have ho9 : ∀ a, a ≠ 7 → a ≠ 10 → ra_g s1 179 a = ra_g σ 179 a := fun a h7 h10 => ((fun a h7 h10 => hp2o a h7) a h7 h10).trans ((fun _ _ _ => rfl) a h7 h10)
  refine ra_load rfl rfl rfl rfl ?_
  refine ra_load rfl rfl rfl rfl ?_
  refine ra_cQPp (sp_203 ) rfl (ct_203 rfl lk_8_95 (Or.inl rfl) sh_179 (Nat.le_of_ble_eq_true rfl)) (fun z11 hz11 hz11p => ?_)
  refine ra_iconst rfl ?_
  refine ra_cT (sp_193 hz11 (by first | omega | (unfold ra_in at *; omega))) rfl (ct_193 rfl lk_8_303 (Or.inl rfl) sh_179 (Nat.le_of_ble_eq_true rfl)) (fun s12 hs12 => ?_)
  obtain ⟨hf13, he14⟩ := hs12
  have hF15 := Fr_tr (lo := 179) (hi := 191) hF3 hf13 (by omega)
  have hk16 : s12 (180) = σ (180) := (hf13 (180) (by omega)).trans hk4
  have hk17 : s12 (183) = σ (183) := (hf13 (183) (by omega)).trans hk5
  have hk18 : s12 (184) = σ (184) := (hf13 (184) (by omega)).trans hk6
  have hk19 : s12 (187) = σ (187) := (hf13 (187) (by omega)).trans hk7
  have hg20 : ∀ a, a ≠ 5 → a ≠ 7 → a ≠ 10 → ra_g s12 179 a = ra_g σ 179 a := fun a h5 h7 h10 => ((fun a h7 h10 => he14 a h7) a h7 h10).trans (hg8 a h5 h7 h10)
  have ho21 : ∀ a, a ≠ 7 → a ≠ 10 → ra_g s12 179 a = ra_g σ 179 a := fun a h7 h10 => ((fun a h7 h10 => he14 a h7) a h7 h10).trans (ho9 a h7 h10)
  refine ra_ifeq rfl rfl (ra_in01 hz11) (fun h22 => ?_) (fun h22 => ?_)
  · refine ra_load rfl rfl rfl rfl ?_
    refine ra_cV (sp_196 (WF_k hk16 hw) (PW_k hpw (ho21 5 (by decide) (by decide)) hk18)) rfl (ct_196 rfl lk_8_366 (Or.inl rfl) sh_179 (Nat.le_of_ble_eq_true rfl)) (fun s23 hs23 => ?_)
    obtain ⟨hf24, hc25, hc26, hc27, hc28, he29, he30⟩ := hs23
    have hF31 := Fr_tr (lo := 179) (hi := 191) hF15 hf24 (by omega)
    have hk32 : s23 (180) = σ (180) := hc25.trans hk16
    have hk33 : s23 (183) = σ (183) := hc28.trans hk17
    have hk34 : s23 (187) = σ (187) := (hf24 (187) (by omega)).trans hk19
    have hg35 : ∀ a, a ≠ 5 → a ≠ 7 → a ≠ 10 → ra_g s23 179 a = ra_g σ 179 a := fun a h5 h7 h10 => ((fun a h5 h7 h10 => he29 a h5) a h5 h7 h10).trans (hg20 a h5 h7 h10)
    refine ra_load rfl rfl rfl rfl ?_
    refine ra_cI (sp_328 (WF_k hk32 hw)) rfl (ct_328 rfl lk_8_410 (Or.inl rfl) sh_179 (Nat.le_of_ble_eq_true rfl)) (fun z37 s36  hz37 hs36 => ?_)
    obtain ⟨hf38, hc39, hc40, hc41, hc42, hc43, he44⟩ := hs36
    have hF45 := Fr_tr (lo := 179) (hi := 191) hF31 hf38 (by omega)
    have hk46 : s36 (183) = σ (183) := hc41.trans hk33
    have hk47 : s36 (187) = σ (187) := hc43.trans hk34
    have hg48 : ∀ a, a ≠ 5 → a ≠ 7 → a ≠ 10 → ra_g s36 179 a = ra_g σ 179 a := fun a h5 h7 h10 => (ra_gk (hf38 179 (by omega))).trans (hg35 a h5 h7 h10)
    exact ra_ireturn rfl rfl ⟨⟨_, hz37, rfl⟩, ⟨hF45, hk46, hk47, hg48, he44, (PW_k he30 (ra_gk (hf38 179 (by omega))) hc42)⟩⟩
  · refine ra_iconst rfl ?_
    exact ra_ireturn rfl rfl ⟨⟨_, (by first | omega | (unfold ra_in at *; omega)), rfl⟩, ⟨hF15, hk17, hk19, hg20, (WF_k hk16 hw), (PW_k hpw (ho21 5 (by decide) (by decide)) hk18)⟩⟩
theorem sp_330 {n : Nat} {f : Nat → Int32} {d : Nat}  {σ : ra_V} (hw : WF σ) (hpw : PW σ) : ra_C (g_Gs n f) g_sh 0 (d + 12) 330 [.index (179)] σ (fun r s => rI r ∧ Fr (179) (191) σ s ∧ s (183) = σ (183) ∧ s (187) = σ (187) ∧ (∀ a, a ≠ 5 → a ≠ 7 → a ≠ 10 → ra_g s 179 a = ra_g σ 179 a) ∧ WF s ∧ PW s) := by
  refine ra_enter (nn := 3) mt_330 rfl (Nat.le_of_ble_eq_true rfl) rfl (fun h => absurd h (by decide +kernel)) ?_
  have hw0 := WF_a hw
  unfold WFa at hw0
  refine ra_load rfl rfl rfl rfl ?_
  refine ra_iconst rfl ?_
  refine ra_putI rfl lk_8_51 (Nat.zero_le _) sh_179 rfl rfl ?_
  refine ra_newU (by first | omega | (unfold ra_in at *; omega)) (fun s1 hs1 hp2 hp2o => ?_)
  have hp2_99 := hp2o 99 (by decide)
  have hF3 := Fr_tr (lo := 179) (hi := 191) Fr_rf hs1 (by omega)
  have hk4 : s1 (180) = σ (180) := (hs1 (180) (by omega))
  have hk5 : s1 (183) = σ (183) := (hs1 (183) (by omega))
  have hk6 : s1 (184) = σ (184) := (hs1 (184) (by omega))
  have hk7 : s1 (187) = σ (187) := (hs1 (187) (by omega))
  have hg8 : ∀ a, a ≠ 5 → a ≠ 7 → a ≠ 10 → ra_g s1 179 a = ra_g σ 179 a := fun a h5 h7 h10 => ((fun a h7 h10 => hp2o a h7) a h7 h10).trans ((fun _ _ _ _ => rfl) a h5 h7 h10)
  have ho9 : ∀ a, a ≠ 7 → a ≠ 10 → ra_g s1 179 a = ra_g σ 179 a := fun a h7 h10 => ((fun a h7 h10 => hp2o a h7) a h7 h10).trans ((fun _ _ _ => rfl) a h7 h10)
  refine ra_load rfl rfl rfl rfl ?_
  refine ra_cQPp (sp_203 ) rfl (ct_203 rfl lk_8_95 (Or.inl rfl) sh_179 (Nat.le_of_ble_eq_true rfl)) (fun z11 hz11 hz11p => ?_)
  refine ra_ifeq rfl rfl (ra_in01 hz11) (fun h12 => ?_) (fun h12 => ?_)
  · refine ra_load rfl rfl rfl rfl ?_
    refine ra_cV (sp_197 ) rfl (ct_197 rfl lk_8_413 (Or.inl rfl) sh_179 (Nat.le_of_ble_eq_true rfl)) (fun s13 hs13 => ?_)
    obtain ⟨hf14, he15⟩ := hs13
    have hF16 := Fr_tr (lo := 179) (hi := 191) hF3 hf14 (by omega)
    have hk17 : s13 (180) = σ (180) := (hf14 (180) (by omega)).trans hk4
    have hk18 : s13 (183) = σ (183) := (hf14 (183) (by omega)).trans hk5
    have hk19 : s13 (184) = σ (184) := (hf14 (184) (by omega)).trans hk6
    have hk20 : s13 (187) = σ (187) := (hf14 (187) (by omega)).trans hk7
    have hk21 : s13 (179) = s1 (179) := (hf14 (179) (by omega))
    have hg22 : ∀ a, a ≠ 5 → a ≠ 7 → a ≠ 10 → ra_g s13 179 a = ra_g σ 179 a := fun a h5 h7 h10 => (ra_gk (hf14 179 (by omega))).trans (hg8 a h5 h7 h10)
    have ho23 : ∀ a, a ≠ 7 → a ≠ 10 → ra_g s13 179 a = ra_g σ 179 a := fun a h7 h10 => (ra_gk (hf14 179 (by omega))).trans (ho9 a h7 h10)
    refine ra_load rfl rfl rfl rfl ?_
    refine ra_getR rfl lk_8_7 (Nat.zero_le _) sh_179 rfl ?_
    refine ra_bipush rfl (by decide) ?_
    refine ra_ialoadJ (j := 6) rfl sh_180 rfl (by decide) rfl (by decide) ?_
    rw [ra_gk hk17]
    have hr24 : ra_in (ra_g σ (180) 6) := (ra_in_g _ _ _)
    refine ra_store (L' := [_, _, _, _]) rfl rfl rfl (Nat.le_of_ble_eq_true rfl) rfl ?_
    refine ra_load rfl rfl rfl rfl ?_
    refine ra_cI (sp_328 (WF_k hk17 hw)) rfl (ct_328 rfl lk_8_410 (Or.inl rfl) sh_179 (Nat.le_of_ble_eq_true rfl)) (fun z26 s25  hz26 hs25 => ?_)
    obtain ⟨hf27, hc28, hc29, hc30, hc31, hc32, he33⟩ := hs25
    have hF34 := Fr_tr (lo := 179) (hi := 191) hF16 hf27 (by omega)
    have hk35 : s25 (183) = σ (183) := hc30.trans hk18
    have hk36 : s25 (184) = σ (184) := hc31.trans hk19
    have hk37 : s25 (187) = σ (187) := hc32.trans hk20
    have hk38 : s25 (179) = s1 (179) := (hf27 (179) (by omega)).trans hk21
    have hg39 : ∀ a, a ≠ 5 → a ≠ 7 → a ≠ 10 → ra_g s25 179 a = ra_g σ 179 a := fun a h5 h7 h10 => (ra_gk (hf27 179 (by omega))).trans (hg22 a h5 h7 h10)
    have ho40 : ∀ a, a ≠ 7 → a ≠ 10 → ra_g s25 179 a = ra_g σ 179 a := fun a h7 h10 => (ra_gk (hf27 179 (by omega))).trans (ho23 a h7 h10)
    refine ra_store (L' := [_, _, _, _]) rfl rfl rfl (Nat.le_of_ble_eq_true rfl) rfl ?_
    refine ra_load rfl rfl rfl rfl ?_
    refine ra_ifge rfl rfl hz26 (fun h41 => ?_) (fun h41 => ?_)
    · refine ra_load rfl rfl rfl rfl ?_
      refine ra_getR rfl lk_8_7 (Nat.zero_le _) sh_179 rfl ?_
      refine ra_bipush rfl (by decide) ?_
      refine ra_ialoadJ (j := 6) rfl sh_180 rfl (by decide) rfl (by decide) ?_
      have hr42 : ra_in (ra_g s25 (180) 6) := (ra_in_g _ _ _)
      refine ra_load rfl rfl rfl rfl ?_
      refine ra_isub rfl ?_
      refine ra_gen (fun z43 hz43 => ?_)
      refine ra_store (L' := [_, _, _, _]) rfl rfl rfl (Nat.le_of_ble_eq_true rfl) rfl ?_
      refine ra_load rfl rfl rfl rfl ?_
      refine ra_cV (sp_198 ) rfl (ct_198 rfl lk_8_416 (Or.inl rfl) sh_179 (Nat.le_of_ble_eq_true rfl)) (fun s44 hs44 => ?_)
      obtain ⟨hf45, he46⟩ := hs44
      have hF47 := Fr_tr (lo := 179) (hi := 191) hF34 hf45 (by omega)
      have hk48 : s44 (183) = σ (183) := (hf45 (183) (by omega)).trans hk35
      have hk49 : s44 (184) = σ (184) := (hf45 (184) (by omega)).trans hk36
      have hk50 : s44 (187) = σ (187) := (hf45 (187) (by omega)).trans hk37
      have hk51 : s44 (179) = s1 (179) := (hf45 (179) (by omega)).trans hk38
      have hg52 : ∀ a, a ≠ 5 → a ≠ 7 → a ≠ 10 → ra_g s44 179 a = ra_g σ 179 a := fun a h5 h7 h10 => (ra_gk (hf45 179 (by omega))).trans (hg39 a h5 h7 h10)
      have ho53 : ∀ a, a ≠ 7 → a ≠ 10 → ra_g s44 179 a = ra_g σ 179 a := fun a h7 h10 => (ra_gk (hf45 179 (by omega))).trans (ho40 a h7 h10)
      refine ra_load rfl rfl rfl rfl ?_
      exact ra_ireturn rfl rfl ⟨⟨_, hz43, rfl⟩, ⟨hF47, hk48, hk50, hg52, (cs_w hw (hs1 180 (by omega)) he15 hc29 he46), (PW_k hpw (ho53 5 (by decide) (by decide)) hk49)⟩⟩
    · refine ra_iconst rfl ?_
      refine ra_goto rfl rfl ?_
      refine ra_store (L' := [_, _, _, _]) rfl rfl rfl (Nat.le_of_ble_eq_true rfl) rfl ?_
      refine ra_load rfl rfl rfl rfl ?_
      refine ra_cV (sp_198 ) rfl (ct_198 rfl lk_8_416 (Or.inl rfl) sh_179 (Nat.le_of_ble_eq_true rfl)) (fun s54 hs54 => ?_)
      obtain ⟨hf55, he56⟩ := hs54
      have hF57 := Fr_tr (lo := 179) (hi := 191) hF34 hf55 (by omega)
      have hk58 : s54 (183) = σ (183) := (hf55 (183) (by omega)).trans hk35
      have hk59 : s54 (184) = σ (184) := (hf55 (184) (by omega)).trans hk36
      have hk60 : s54 (187) = σ (187) := (hf55 (187) (by omega)).trans hk37
      have hk61 : s54 (179) = s1 (179) := (hf55 (179) (by omega)).trans hk38
      have hg62 : ∀ a, a ≠ 5 → a ≠ 7 → a ≠ 10 → ra_g s54 179 a = ra_g σ 179 a := fun a h5 h7 h10 => (ra_gk (hf55 179 (by omega))).trans (hg39 a h5 h7 h10)
      have ho63 : ∀ a, a ≠ 7 → a ≠ 10 → ra_g s54 179 a = ra_g σ 179 a := fun a h7 h10 => (ra_gk (hf55 179 (by omega))).trans (ho40 a h7 h10)
      refine ra_load rfl rfl rfl rfl ?_
      exact ra_ireturn rfl rfl ⟨⟨_, (by first | omega | (unfold ra_in at *; omega)), rfl⟩, ⟨hF57, hk58, hk60, hg62, (cs_w hw (hs1 180 (by omega)) he15 hc29 he56), (PW_k hpw (ho63 5 (by decide) (by decide)) hk59)⟩⟩
  · refine ra_iconst rfl ?_
    exact ra_ireturn rfl rfl ⟨⟨_, (by first | omega | (unfold ra_in at *; omega)), rfl⟩, ⟨hF3, hk5, hk7, hg8, (WF_k hk4 hw), (PW_k hpw (ho9 5 (by decide) (by decide)) hk6)⟩⟩
end RB
