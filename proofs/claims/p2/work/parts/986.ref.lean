/-! the reference: what its methods do (printed by wip/gen/ref.py) -/
section RB
theorem lp_328_33 {n : Nat} {f : Nat → Int32} {d : Nat}  {σ : ra_V} (hw : WF σ) : ∀ (nn : Nat) (v1 : Int) (v2 : Int) (v3 : Int) (s : ra_V) (hv1_0 : 0 ≤ v1 ∧ v1 ≤ 8) (hv2_0 : ra_in v2) (hv3_0 : 0 ≤ v3) (hv3_1 : v3 ≤ v1) (hF : Fr (180) (190) σ s) (hk0 : s (181) = σ (181)) (hk1 : s (182) = σ (182)) (hk2 : s (183) = σ (183)) (hk3 : s (184) = σ (184)) (hws : WF s) (hex : ∀ p, 0 ≤ p → p < 8 → wq s p 0 = wq σ p 0) (hln : ∀ k : Nat, (k : Int) < v1 → 0 ≤ ra_g s 189 k ∧ ra_g s 189 k < 8 ∧ wq σ (ra_g s 189 k) 0 = 1) (hm : ((v1 - v3 : Int)).toNat < nn), ra_P (g_Gs n f) g_sh 0 (d + 10) g_m_X8_compacts 33 [some (.index (179)), some (ra_I v1), some (ra_I v2), some (ra_I v3), none] [] s (fun r s => rI r ∧ Fr (180) (190) σ s ∧ s (181) = σ (181) ∧ s (182) = σ (182) ∧ s (183) = σ (183) ∧ s (184) = σ (184) ∧ WF s) := by
  intro nn
  induction nn with
  | zero => intro v1 v2 v3 s hv1_0 hv2_0 hv3_0 hv3_1 hF hk0 hk1 hk2 hk3 hws hex hln hm; exact absurd hm (Nat.not_lt_zero _)
  | succ nn ih =>
    intro v1 v2 v3 s hv1_0 hv2_0 hv3_0 hv3_1 hF hk0 hk1 hk2 hk3 hws hex hln hm
    have hw1 := WF_a hws
    unfold WFa at hw1
    refine ra_load rfl rfl rfl rfl ?_
    refine ra_load rfl rfl rfl rfl ?_
    refine ra_icge rfl rfl (by first | omega | (unfold ra_in at *; omega)) (by first | omega | (unfold ra_in at *; omega)) (fun h4 => ?_) (fun h4 => ?_)
    · refine ra_load rfl rfl rfl rfl ?_
      exact ra_ireturn rfl rfl ⟨⟨_, (by first | omega | (unfold ra_in at *; omega)), rfl⟩, ⟨hF, hk0, hk1, hk2, hk3, hws⟩⟩
    · refine ra_load rfl rfl rfl rfl ?_
      refine ra_load rfl rfl rfl rfl ?_
      refine ra_getR rfl lk_8_41 (Nat.zero_le _) sh_179 rfl ?_
      refine ra_load rfl rfl rfl rfl ?_
      refine ra_iaload rfl sh_189 rfl (by decide) (by first | omega | (unfold ra_in at *; omega)) (by first | omega | (unfold ra_in at *; omega)) ?_
      have hr5 : ra_in (ra_g s (189) v3.toNat) := (ra_in_g _ _ _)
      refine ra_cIPp (sp_243 hr5 hws (lnp_ hln hex v3 (by omega))) rfl (ct_243 rfl lk_8_404 (Or.inl rfl) sh_179 (Nat.le_of_ble_eq_true rfl)) (fun z7 hz7 hz7p => ?_)
      refine ra_store (L' := [_, _, _, _, _]) rfl rfl rfl (Nat.le_of_ble_eq_true rfl) rfl ?_
      refine ra_load rfl rfl rfl rfl ?_
      refine ra_iconst rfl ?_
      refine ra_icne rfl rfl hz7 (by first | omega | (unfold ra_in at *; omega)) (fun h8 => ?_) (fun h8 => ?_)
      · refine ra_load rfl rfl rfl rfl ?_
        refine ra_load rfl rfl rfl rfl ?_
        refine ra_getR rfl lk_8_41 (Nat.zero_le _) sh_179 rfl ?_
        refine ra_load rfl rfl rfl rfl ?_
        refine ra_iaload rfl sh_189 rfl (by decide) (by first | omega | (unfold ra_in at *; omega)) (by first | omega | (unfold ra_in at *; omega)) ?_
        have hr9 : ra_in (ra_g s (189) v3.toNat) := (ra_in_g _ _ _)
        refine ra_load rfl rfl rfl rfl ?_
        refine ra_cV (sp_239 hr9 hz7 hws (lnp_ hln hex v3 (by omega)) (mok_of hz7p (by omega))) rfl (ct_239 rfl lk_8_391 (Or.inl rfl) sh_179 (Nat.le_of_ble_eq_true rfl)) (fun s10 hs10 => ?_)
        obtain ⟨hf11, he12, he13, he14⟩ := hs10
        have hF15 := Fr_tr (lo := 180) (hi := 190) hF hf11 (by omega)
        have hk16 : s10 (181) = σ (181) := (hf11 (181) (by omega)).trans hk0
        have hk17 : s10 (182) = σ (182) := (hf11 (182) (by omega)).trans hk1
        have hk18 : s10 (183) = σ (183) := (hf11 (183) (by omega)).trans hk2
        have hk19 : s10 (184) = σ (184) := (hf11 (184) (by omega)).trans hk3
        refine ra_load rfl rfl rfl rfl ?_
        refine ra_load rfl rfl rfl rfl ?_
        refine ra_load rfl rfl rfl rfl ?_
        refine ra_cIp (sp_234 (MV_f he12 (by have := he13; have a := hln v3.toNat (by omega); omega))) rfl (ct_234 rfl lk_8_394 (Or.inl rfl) sh_179 (Nat.le_of_ble_eq_true rfl)) (fun z21 hz21 => ?_)
        refine ra_cI (sp_241 hz21 he12) rfl (ct_241 rfl lk_8_399 (Or.inl rfl) sh_179 (Nat.le_of_ble_eq_true rfl)) (fun z23 s22  hz23 hs22 => ?_)
        obtain ⟨hf24, he25, he26⟩ := hs22
        have hF27 := Fr_tr (lo := 180) (hi := 190) hF15 hf24 (by omega)
        have hk28 : s22 (181) = σ (181) := (hf24 (181) (by omega)).trans hk16
        have hk29 : s22 (182) = σ (182) := (hf24 (182) (by omega)).trans hk17
        have hk30 : s22 (183) = σ (183) := (hf24 (183) (by omega)).trans hk18
        have hk31 : s22 (184) = σ (184) := (hf24 (184) (by omega)).trans hk19
        refine ra_ifle rfl rfl hz23 (fun h32 => ?_) (fun h32 => ?_)
        · refine ra_iconst rfl ?_
          refine ra_iadd rfl ?_
          refine ra_gen (fun z33 hz33 => ?_)
          refine ra_store (L' := [_, _, _, _, _]) rfl rfl rfl (Nat.le_of_ble_eq_true rfl) rfl ?_
          refine ra_iinc (L' := [_, _, _, _, _]) rfl rfl (Nat.le_of_ble_eq_true rfl) rfl ?_
          refine ra_goto rfl rfl ?_
          exact ra_weak (by repeat' constructor) (ih v1 z33 (v3 + 1) s22 (by first | omega | (unfold ra_in at *; omega)) hz33 (by first | omega | (unfold ra_in at *; omega)) (by first | omega | (unfold ra_in at *; omega)) hF27 hk28 hk29 hk30 hk31 he25 (fun p p0 p1 => ((he26 p p0 p1).trans ((he14 p p0 p1).trans (hex p p0 p1)))) (ln_k ((hf24 189 (by omega)).trans (hf11 189 (by omega))) hln) (by first | omega | (unfold ra_in at *; omega)))
        · refine ra_iconst rfl ?_
          refine ra_goto rfl rfl ?_
          refine ra_iadd rfl ?_
          refine ra_gen (fun z34 hz34 => ?_)
          refine ra_store (L' := [_, _, _, _, _]) rfl rfl rfl (Nat.le_of_ble_eq_true rfl) rfl ?_
          refine ra_iinc (L' := [_, _, _, _, _]) rfl rfl (Nat.le_of_ble_eq_true rfl) rfl ?_
          refine ra_goto rfl rfl ?_
          exact ra_weak (by repeat' constructor) (ih v1 z34 (v3 + 1) s22 (by first | omega | (unfold ra_in at *; omega)) hz34 (by first | omega | (unfold ra_in at *; omega)) (by first | omega | (unfold ra_in at *; omega)) hF27 hk28 hk29 hk30 hk31 he25 (fun p p0 p1 => ((he26 p p0 p1).trans ((he14 p p0 p1).trans (hex p p0 p1)))) (ln_k ((hf24 189 (by omega)).trans (hf11 189 (by omega))) hln) (by first | omega | (unfold ra_in at *; omega)))
      · refine ra_goto rfl rfl ?_
        refine ra_iinc (L' := [_, _, _, _, _]) rfl rfl (Nat.le_of_ble_eq_true rfl) rfl ?_
        refine ra_goto rfl rfl ?_
        exact ra_weak (by repeat' constructor) (ih v1 v2 (v3 + 1) s (by first | omega | (unfold ra_in at *; omega)) (by first | omega | (unfold ra_in at *; omega)) (by first | omega | (unfold ra_in at *; omega)) (by first | omega | (unfold ra_in at *; omega)) hF hk0 hk1 hk2 hk3 hws (fun p p0 p1 => (hex p p0 p1)) hln (by first | omega | (unfold ra_in at *; omega)))
theorem lp_328_9 {n : Nat} {f : Nat → Int32} {d : Nat}  {σ : ra_V} (hw : WF σ) : ∀ (nn : Nat) (v1 : Int) (v3 : Int) (s : ra_V) (hv1_0 : v1 = ct σ (-1)) (hv1_1 : 0 ≤ v1 ∧ v1 ≤ 8) (hv3_0 : 0 ≤ v3) (hv3_1 : v3 ≤ v1) (hF : Fr (180) (190) σ s) (hk0 : s (180) = σ (180)) (hk1 : s (181) = σ (181)) (hk2 : s (182) = σ (182)) (hk3 : s (183) = σ (183)) (hk4 : s (184) = σ (184)) (hln : ∀ k : Nat, (k : Int) < v3 → 0 ≤ ra_g s 189 k ∧ ra_g s 189 k < 8 ∧ wq σ (ra_g s 189 k) 0 = 1) (hm : ((v1 - v3 : Int)).toNat < nn), ra_P (g_Gs n f) g_sh 0 (d + 10) g_m_X8_compacts 9 [some (.index (179)), some (ra_I v1), some (ra_I (0)), some (ra_I v3), none] [] s (fun r s => rI r ∧ Fr (180) (190) σ s ∧ s (181) = σ (181) ∧ s (182) = σ (182) ∧ s (183) = σ (183) ∧ s (184) = σ (184) ∧ WF s) := by
  intro nn
  induction nn with
  | zero => intro v1 v3 s hv1_0 hv1_1 hv3_0 hv3_1 hF hk0 hk1 hk2 hk3 hk4 hln hm; exact absurd hm (Nat.not_lt_zero _)
  | succ nn ih =>
    intro v1 v3 s hv1_0 hv1_1 hv3_0 hv3_1 hF hk0 hk1 hk2 hk3 hk4 hln hm
    refine ra_load rfl rfl rfl rfl ?_
    refine ra_load rfl rfl rfl rfl ?_
    refine ra_icge rfl rfl (by first | omega | (unfold ra_in at *; omega)) (by first | omega | (unfold ra_in at *; omega)) (fun h3 => ?_) (fun h3 => ?_)
    · refine ra_iconst rfl ?_
      refine ra_store (L' := [_, _, _, _, _]) rfl rfl rfl (Nat.le_of_ble_eq_true rfl) rfl ?_
      exact ra_weak (by repeat' constructor) (lp_328_33 hw _ v1 (0) (0) s (by first | omega | (unfold ra_in at *; omega)) (by first | omega | (unfold ra_in at *; omega)) (by first | omega | (unfold ra_in at *; omega)) (by first | omega | (unfold ra_in at *; omega)) hF hk1 hk2 hk3 hk4 (WF_k hk0 hw) (fun p p0 p1 => wq_k hk0) (fun k hk => hln k (by omega)) (Nat.lt_succ_self _))
    · refine ra_load rfl rfl rfl rfl ?_
      refine ra_getR rfl lk_8_41 (Nat.zero_le _) sh_179 rfl ?_
      refine ra_load rfl rfl rfl rfl ?_
      refine ra_load rfl rfl rfl rfl ?_
      refine ra_load rfl rfl rfl rfl ?_
      refine ra_cIPp (sq_278 (by first | omega | (unfold ra_in at *; omega)) (WF_k hk0 hw) (by rw [ct_k hk0]; omega)) rfl (ct_278 rfl lk_8_336 (Or.inl rfl) sh_179 (Nat.le_of_ble_eq_true rfl)) (fun z36 hz36 hz36p => ?_)
      have lnx := sta_k hk0 hz36p
      refine ra_iastore rfl sh_189 rfl (by decide) (by first | omega | (unfold ra_in at *; omega)) (by first | omega | (unfold ra_in at *; omega)) ?_
      refine ra_newR hz36 (fun s37 hs37 hs37v hs37o => ?_)
      have hF38 := Fr_tr (lo := 180) (hi := 190) hF hs37 (by omega)
      have hk39 : s37 (180) = σ (180) := (hs37 (180) (by omega)).trans hk0
      have hk40 : s37 (181) = σ (181) := (hs37 (181) (by omega)).trans hk1
      have hk41 : s37 (182) = σ (182) := (hs37 (182) (by omega)).trans hk2
      have hk42 : s37 (183) = σ (183) := (hs37 (183) (by omega)).trans hk3
      have hk43 : s37 (184) = σ (184) := (hs37 (184) (by omega)).trans hk4
      refine ra_iinc (L' := [_, _, _, _, _]) rfl rfl (Nat.le_of_ble_eq_true rfl) rfl ?_
      refine ra_goto rfl rfl ?_
      exact ra_weak (by repeat' constructor) (ih v1 (v3 + 1) s37 (by first | omega | (unfold ra_in at *; omega)) (by first | omega | (unfold ra_in at *; omega)) (by first | omega | (unfold ra_in at *; omega)) (by first | omega | (unfold ra_in at *; omega)) hF38 hk39 hk40 hk41 hk42 hk43 (fun k hk => if e : k = v3.toNat then (by rw [e, hs37v]; exact lnx) else (by rw [hs37o k e]; exact hln k (by omega))) (by first | omega | (unfold ra_in at *; omega)))
theorem sp_328 {n : Nat} {f : Nat → Int32} {d : Nat}  {σ : ra_V} (hw : WF σ) : ra_C (g_Gs n f) g_sh 0 (d + 11) 328 [.index (179)] σ (fun r s => rI r ∧ Fr (180) (190) σ s ∧ s (181) = σ (181) ∧ s (182) = σ (182) ∧ s (183) = σ (183) ∧ s (184) = σ (184) ∧ WF s) := by
  refine ra_enter (nn := 4) mt_328 rfl (Nat.le_of_ble_eq_true rfl) rfl (fun h => absurd h (by decide +kernel)) ?_
  have hw0 := WF_a hw
  unfold WFa at hw0
  have hcb := ct_b (σ := σ) (c := -1)
  refine ra_load rfl rfl rfl rfl ?_
  refine ra_cIPp (sq_202 (WF_k rfl hw)) rfl (ct_202 rfl lk_8_298 (Or.inl rfl) sh_179 (Nat.le_of_ble_eq_true rfl)) (fun z2 hz2 hz2p => ?_)
  refine ra_store (L' := [_, _, _, _, _]) rfl rfl rfl (Nat.le_of_ble_eq_true rfl) rfl ?_
  refine ra_iconst rfl ?_
  refine ra_store (L' := [_, _, _, _, _]) rfl rfl rfl (Nat.le_of_ble_eq_true rfl) rfl ?_
  refine ra_iconst rfl ?_
  refine ra_store (L' := [_, _, _, _, _]) rfl rfl rfl (Nat.le_of_ble_eq_true rfl) rfl ?_
  exact ra_weak (by repeat' constructor) (lp_328_9 hw _ z2 (0) σ (by first | omega | (unfold ra_in at *; omega)) (by first | omega | (unfold ra_in at *; omega)) (by first | omega | (unfold ra_in at *; omega)) (by first | omega | (unfold ra_in at *; omega)) Fr_rf rfl rfl rfl rfl rfl (fun k hk => by omega) (Nat.lt_succ_self _))
theorem sp_329 {n : Nat} {f : Nat → Int32} {d : Nat}  {σ : ra_V} (hw : WF σ) (hpw : PW σ) : ra_C (g_Gs n f) g_sh 0 (d + 12) 329 [.index (179)] σ (fun r s => rI r ∧ Fr (179) (191) σ s ∧ s (183) = σ (183) ∧ (∀ a, a ≠ 5 → a ≠ 7 → a ≠ 10 → ra_g s 179 a = ra_g σ 179 a) ∧ WF s ∧ PW s) := by
  refine ra_enter (nn := 0) mt_329 rfl (Nat.le_of_ble_eq_true rfl) rfl (fun h => absurd h (by decide +kernel)) ?_
  have hw0 := WF_a hw
  unfold WFa at hw0
  refine ra_load rfl rfl rfl rfl ?_
  refine ra_iconst rfl ?_
  refine ra_putI rfl lk_8_51 (Nat.zero_le _) sh_179 rfl rfl ?_
  refine ra_newU (by first | omega | (unfold ra_in at *; omega)) (fun s1 hs1 hp2 hp2o => ?_)
  have hp2_99 := hp2o 99 (by decide)
  have hF3 := Fr_tr (lo := 179) (hi := 191) Fr_rf hs1 (by omega)
  have hk4 : s1 (180) = σ (180) := (hs1 (180) (by omega))
  have hk5 : s1 (183) = σ (183) := (hs1 (183) (by omega))
  have hk6 : s1 (184) = σ (184) := (hs1 (184) (by omega))
  have hg7 : ∀ a, a ≠ 5 → a ≠ 7 → a ≠ 10 → ra_g s1 179 a = ra_g σ 179 a := fun a h5 h7 h10 => ((fun a h7 h10 => hp2o a h7) a h7 h10).trans ((fun _ _ _ _ => rfl) a h5 h7 h10)
  have ho8 : ∀ a, a ≠ 7 → a ≠ 10 → ra_g s1 179 a = ra_g σ 179 a := fun a h7 h10 => ((fun a h7 h10 => hp2o a h7) a h7 h10).trans ((fun _ _ _ => rfl) a h7 h10)
  refine ra_load rfl rfl rfl rfl ?_
  refine ra_load rfl rfl rfl rfl ?_
  refine ra_cQPp (sp_203 ) rfl (ct_203 rfl lk_8_95 (Or.inl rfl) sh_179 (Nat.le_of_ble_eq_true rfl)) (fun z10 hz10 hz10p => ?_)
  refine ra_iconst rfl ?_
  refine ra_cT (sp_193 hz10 (by first | omega | (unfold ra_in at *; omega))) rfl (ct_193 rfl lk_8_303 (Or.inl rfl) sh_179 (Nat.le_of_ble_eq_true rfl)) (fun s11 hs11 => ?_)
  obtain ⟨hf12, he13⟩ := hs11
  have hF14 := Fr_tr (lo := 179) (hi := 191) hF3 hf12 (by omega)
  have hk15 : s11 (180) = σ (180) := (hf12 (180) (by omega)).trans hk4
  have hk16 : s11 (183) = σ (183) := (hf12 (183) (by omega)).trans hk5
  have hk17 : s11 (184) = σ (184) := (hf12 (184) (by omega)).trans hk6
  have hg18 : ∀ a, a ≠ 5 → a ≠ 7 → a ≠ 10 → ra_g s11 179 a = ra_g σ 179 a := fun a h5 h7 h10 => ((fun a h7 h10 => he13 a h7) a h7 h10).trans (hg7 a h5 h7 h10)
  have ho19 : ∀ a, a ≠ 7 → a ≠ 10 → ra_g s11 179 a = ra_g σ 179 a := fun a h7 h10 => ((fun a h7 h10 => he13 a h7) a h7 h10).trans (ho8 a h7 h10)
  refine ra_ifeq rfl rfl (ra_in01 hz10) (fun h20 => ?_) (fun h20 => ?_)
  · refine ra_load rfl rfl rfl rfl ?_
    refine ra_cV (sp_196 (WF_k hk15 hw) (PW_k hpw (ho19 5 (by decide) (by decide)) hk17)) rfl (ct_196 rfl lk_8_366 (Or.inl rfl) sh_179 (Nat.le_of_ble_eq_true rfl)) (fun s21 hs21 => ?_)
    obtain ⟨hf22, hc23, hc24, hc25, hc26, he27, he28⟩ := hs21
    have hF29 := Fr_tr (lo := 179) (hi := 191) hF14 hf22 (by omega)
    have hk30 : s21 (180) = σ (180) := hc23.trans hk15
    have hk31 : s21 (183) = σ (183) := hc26.trans hk16
    have hg32 : ∀ a, a ≠ 5 → a ≠ 7 → a ≠ 10 → ra_g s21 179 a = ra_g σ 179 a := fun a h5 h7 h10 => ((fun a h5 h7 h10 => he27 a h5) a h5 h7 h10).trans (hg18 a h5 h7 h10)
    refine ra_load rfl rfl rfl rfl ?_
    refine ra_cI (sp_328 (WF_k hk30 hw)) rfl (ct_328 rfl lk_8_410 (Or.inl rfl) sh_179 (Nat.le_of_ble_eq_true rfl)) (fun z34 s33  hz34 hs33 => ?_)
    obtain ⟨hf35, hc36, hc37, hc38, hc39, he40⟩ := hs33
    have hF41 := Fr_tr (lo := 179) (hi := 191) hF29 hf35 (by omega)
    have hk42 : s33 (183) = σ (183) := hc38.trans hk31
    have hg43 : ∀ a, a ≠ 5 → a ≠ 7 → a ≠ 10 → ra_g s33 179 a = ra_g σ 179 a := fun a h5 h7 h10 => (ra_gk (hf35 179 (by omega))).trans (hg32 a h5 h7 h10)
    exact ra_ireturn rfl rfl ⟨⟨_, hz34, rfl⟩, ⟨hF41, hk42, hg43, he40, (PW_k he28 (ra_gk (hf35 179 (by omega))) hc39)⟩⟩
  · refine ra_iconst rfl ?_
    exact ra_ireturn rfl rfl ⟨⟨_, (by first | omega | (unfold ra_in at *; omega)), rfl⟩, ⟨hF14, hk16, hg18, (WF_k hk15 hw), (PW_k hpw (ho19 5 (by decide) (by decide)) hk17)⟩⟩
theorem sp_330 {n : Nat} {f : Nat → Int32} {d : Nat}  {σ : ra_V} (hw : WF σ) (hpw : PW σ) : ra_C (g_Gs n f) g_sh 0 (d + 12) 330 [.index (179)] σ (fun r s => rI r ∧ Fr (179) (191) σ s ∧ s (183) = σ (183) ∧ (∀ a, a ≠ 5 → a ≠ 7 → a ≠ 10 → ra_g s 179 a = ra_g σ 179 a) ∧ WF s ∧ PW s) := by
  refine ra_enter (nn := 3) mt_330 rfl (Nat.le_of_ble_eq_true rfl) rfl (fun h => absurd h (by decide +kernel)) ?_
  have hw0 := WF_a hw
  unfold WFa at hw0
  refine ra_load rfl rfl rfl rfl ?_
  refine ra_iconst rfl ?_
  refine ra_putI rfl lk_8_51 (Nat.zero_le _) sh_179 rfl rfl ?_
  refine ra_newU (by first | omega | (unfold ra_in at *; omega)) (fun s1 hs1 hp2 hp2o => ?_)
  have hp2_99 := hp2o 99 (by decide)
  have hF3 := Fr_tr (lo := 179) (hi := 191) Fr_rf hs1 (by omega)
  have hk4 : s1 (180) = σ (180) := (hs1 (180) (by omega))
  have hk5 : s1 (183) = σ (183) := (hs1 (183) (by omega))
  have hk6 : s1 (184) = σ (184) := (hs1 (184) (by omega))
  have hg7 : ∀ a, a ≠ 5 → a ≠ 7 → a ≠ 10 → ra_g s1 179 a = ra_g σ 179 a := fun a h5 h7 h10 => ((fun a h7 h10 => hp2o a h7) a h7 h10).trans ((fun _ _ _ _ => rfl) a h5 h7 h10)
  have ho8 : ∀ a, a ≠ 7 → a ≠ 10 → ra_g s1 179 a = ra_g σ 179 a := fun a h7 h10 => ((fun a h7 h10 => hp2o a h7) a h7 h10).trans ((fun _ _ _ => rfl) a h7 h10)
  refine ra_load rfl rfl rfl rfl ?_
  refine ra_cQPp (sp_203 ) rfl (ct_203 rfl lk_8_95 (Or.inl rfl) sh_179 (Nat.le_of_ble_eq_true rfl)) (fun z10 hz10 hz10p => ?_)
  refine ra_ifeq rfl rfl (ra_in01 hz10) (fun h11 => ?_) (fun h11 => ?_)
  · refine ra_load rfl rfl rfl rfl ?_
    refine ra_cV (sp_197 ) rfl (ct_197 rfl lk_8_413 (Or.inl rfl) sh_179 (Nat.le_of_ble_eq_true rfl)) (fun s12 hs12 => ?_)
    obtain ⟨hf13, he14⟩ := hs12
    have hF15 := Fr_tr (lo := 179) (hi := 191) hF3 hf13 (by omega)
    have hk16 : s12 (180) = σ (180) := (hf13 (180) (by omega)).trans hk4
    have hk17 : s12 (183) = σ (183) := (hf13 (183) (by omega)).trans hk5
    have hk18 : s12 (184) = σ (184) := (hf13 (184) (by omega)).trans hk6
    have hk19 : s12 (179) = s1 (179) := (hf13 (179) (by omega))
    have hg20 : ∀ a, a ≠ 5 → a ≠ 7 → a ≠ 10 → ra_g s12 179 a = ra_g σ 179 a := fun a h5 h7 h10 => (ra_gk (hf13 179 (by omega))).trans (hg7 a h5 h7 h10)
    have ho21 : ∀ a, a ≠ 7 → a ≠ 10 → ra_g s12 179 a = ra_g σ 179 a := fun a h7 h10 => (ra_gk (hf13 179 (by omega))).trans (ho8 a h7 h10)
    refine ra_load rfl rfl rfl rfl ?_
    refine ra_getR rfl lk_8_7 (Nat.zero_le _) sh_179 rfl ?_
    refine ra_bipush rfl (by decide) ?_
    refine ra_ialoadJ (j := 6) rfl sh_180 rfl (by decide) rfl (by decide) ?_
    rw [ra_gk hk16]
    have hr22 : ra_in (ra_g σ (180) 6) := (ra_in_g _ _ _)
    refine ra_store (L' := [_, _, _, _]) rfl rfl rfl (Nat.le_of_ble_eq_true rfl) rfl ?_
    refine ra_load rfl rfl rfl rfl ?_
    refine ra_cI (sp_328 (WF_k hk16 hw)) rfl (ct_328 rfl lk_8_410 (Or.inl rfl) sh_179 (Nat.le_of_ble_eq_true rfl)) (fun z24 s23  hz24 hs23 => ?_)
    obtain ⟨hf25, hc26, hc27, hc28, hc29, he30⟩ := hs23
    have hF31 := Fr_tr (lo := 179) (hi := 191) hF15 hf25 (by omega)
    have hk32 : s23 (183) = σ (183) := hc28.trans hk17
    have hk33 : s23 (184) = σ (184) := hc29.trans hk18
    have hk34 : s23 (179) = s1 (179) := (hf25 (179) (by omega)).trans hk19
    have hg35 : ∀ a, a ≠ 5 → a ≠ 7 → a ≠ 10 → ra_g s23 179 a = ra_g σ 179 a := fun a h5 h7 h10 => (ra_gk (hf25 179 (by omega))).trans (hg20 a h5 h7 h10)
    have ho36 : ∀ a, a ≠ 7 → a ≠ 10 → ra_g s23 179 a = ra_g σ 179 a := fun a h7 h10 => (ra_gk (hf25 179 (by omega))).trans (ho21 a h7 h10)
    refine ra_store (L' := [_, _, _, _]) rfl rfl rfl (Nat.le_of_ble_eq_true rfl) rfl ?_
    refine ra_load rfl rfl rfl rfl ?_
    refine ra_ifge rfl rfl hz24 (fun h37 => ?_) (fun h37 => ?_)
    · refine ra_load rfl rfl rfl rfl ?_
      refine ra_getR rfl lk_8_7 (Nat.zero_le _) sh_179 rfl ?_
      refine ra_bipush rfl (by decide) ?_
      refine ra_ialoadJ (j := 6) rfl sh_180 rfl (by decide) rfl (by decide) ?_
      have hr38 : ra_in (ra_g s23 (180) 6) := (ra_in_g _ _ _)
      refine ra_load rfl rfl rfl rfl ?_
      refine ra_isub rfl ?_
      refine ra_gen (fun z39 hz39 => ?_)
      refine ra_store (L' := [_, _, _, _]) rfl rfl rfl (Nat.le_of_ble_eq_true rfl) rfl ?_
      refine ra_load rfl rfl rfl rfl ?_
      refine ra_cV (sp_198 ) rfl (ct_198 rfl lk_8_416 (Or.inl rfl) sh_179 (Nat.le_of_ble_eq_true rfl)) (fun s40 hs40 => ?_)
      obtain ⟨hf41, he42⟩ := hs40
      have hF43 := Fr_tr (lo := 179) (hi := 191) hF31 hf41 (by omega)
      have hk44 : s40 (183) = σ (183) := (hf41 (183) (by omega)).trans hk32
      have hk45 : s40 (184) = σ (184) := (hf41 (184) (by omega)).trans hk33
      have hk46 : s40 (179) = s1 (179) := (hf41 (179) (by omega)).trans hk34
      have hg47 : ∀ a, a ≠ 5 → a ≠ 7 → a ≠ 10 → ra_g s40 179 a = ra_g σ 179 a := fun a h5 h7 h10 => (ra_gk (hf41 179 (by omega))).trans (hg35 a h5 h7 h10)
      have ho48 : ∀ a, a ≠ 7 → a ≠ 10 → ra_g s40 179 a = ra_g σ 179 a := fun a h7 h10 => (ra_gk (hf41 179 (by omega))).trans (ho36 a h7 h10)
      refine ra_load rfl rfl rfl rfl ?_
      exact ra_ireturn rfl rfl ⟨⟨_, hz39, rfl⟩, ⟨hF43, hk44, hg47, (cs_w hw (hs1 180 (by omega)) he14 hc27 he42), (PW_k hpw (ho48 5 (by decide) (by decide)) hk45)⟩⟩
    · refine ra_iconst rfl ?_
      refine ra_goto rfl rfl ?_
      refine ra_store (L' := [_, _, _, _]) rfl rfl rfl (Nat.le_of_ble_eq_true rfl) rfl ?_
      refine ra_load rfl rfl rfl rfl ?_
      refine ra_cV (sp_198 ) rfl (ct_198 rfl lk_8_416 (Or.inl rfl) sh_179 (Nat.le_of_ble_eq_true rfl)) (fun s49 hs49 => ?_)
      obtain ⟨hf50, he51⟩ := hs49
      have hF52 := Fr_tr (lo := 179) (hi := 191) hF31 hf50 (by omega)
      have hk53 : s49 (183) = σ (183) := (hf50 (183) (by omega)).trans hk32
      have hk54 : s49 (184) = σ (184) := (hf50 (184) (by omega)).trans hk33
      have hk55 : s49 (179) = s1 (179) := (hf50 (179) (by omega)).trans hk34
      have hg56 : ∀ a, a ≠ 5 → a ≠ 7 → a ≠ 10 → ra_g s49 179 a = ra_g σ 179 a := fun a h5 h7 h10 => (ra_gk (hf50 179 (by omega))).trans (hg35 a h5 h7 h10)
      have ho57 : ∀ a, a ≠ 7 → a ≠ 10 → ra_g s49 179 a = ra_g σ 179 a := fun a h7 h10 => (ra_gk (hf50 179 (by omega))).trans (ho36 a h7 h10)
      refine ra_load rfl rfl rfl rfl ?_
      exact ra_ireturn rfl rfl ⟨⟨_, (by first | omega | (unfold ra_in at *; omega)), rfl⟩, ⟨hF52, hk53, hg56, (cs_w hw (hs1 180 (by omega)) he14 hc27 he51), (PW_k hpw (ho57 5 (by decide) (by decide)) hk54)⟩⟩
  · refine ra_iconst rfl ?_
    exact ra_ireturn rfl rfl ⟨⟨_, (by first | omega | (unfold ra_in at *; omega)), rfl⟩, ⟨hF3, hk5, hg7, (WF_k hk4 hw), (PW_k hpw (ho8 5 (by decide) (by decide)) hk6)⟩⟩
end RB
