/-! the reference: what its methods do (printed by wip/gen/ref.py) -/
section RB
theorem lp_333_32 {n : Nat} {f : Nat → Int32} {d : Nat} {x0 : Int} {x1 : Int} {σ : ra_V} (hx0 : ra_in x0) (hx1 : ra_in x1) (hw : WF σ) (hpw : PW σ) : ∀ (nn : Nat) (v3 : Int) (v4 : Int) (v5 : Int) (v6 : Int) (s : ra_V) (hv3_0 : 1 ≤ v3) (hv3_1 : v3 ≤ 16) (hv4_0 : ra_in v4) (hv5_0 : ra_in v5) (hv6_0 : 1 ≤ v6) (hv6_1 : v6 ≤ 17) (hF : Fr (179) (191) σ s) (hk0 : s (183) = σ (183)) (hk1 : s (187) = σ (187)) (hws : WF s) (hps : PW s) (hsp : 0 ≤ x0 ∧ x0 < 8 ∧ wq s x0 0 = 1) (ho3 : ∀ a, a ≠ 5 → a ≠ 7 → a ≠ 10 → ra_g s 179 a = ra_g σ 179 a) (hm : ((17 - v6 : Int)).toNat < nn), ra_P (g_Gs n f) g_sh 0 (d + 4) g_m_X8_bestChunk 32 [some (.index (179)), some (ra_I x0), some (ra_I x1), some (ra_I v3), some (ra_I v4), some (ra_I v5), some (ra_I v6), none] [] s (fun r s => rI r ∧ Fr (179) (191) σ s ∧ s (183) = σ (183) ∧ s (187) = σ (187) ∧ (∀ a, a ≠ 5 → a ≠ 7 → a ≠ 10 → ra_g s 179 a = ra_g σ 179 a) ∧ WF s ∧ PW s) := by
  intro nn
  induction nn with
  | zero => intro v3 v4 v5 v6 s hv3_0 hv3_1 hv4_0 hv5_0 hv6_0 hv6_1 hF hk0 hk1 hws hps hsp ho3 hm; exact absurd hm (Nat.not_lt_zero _)
  | succ nn ih =>
    intro v3 v4 v5 v6 s hv3_0 hv3_1 hv4_0 hv5_0 hv6_0 hv6_1 hF hk0 hk1 hws hps hsp ho3 hm
    refine ra_load rfl rfl rfl rfl ?_
    refine ra_bipush rfl (by decide) ?_
    refine ra_icgt rfl rfl (by first | omega | (unfold ra_in at *; omega)) (by first | omega | (unfold ra_in at *; omega)) (fun h23 => ?_) (fun h23 => ?_)
    · refine ra_load rfl rfl rfl rfl ?_
      refine ra_getR rfl lk_8_7 (Nat.zero_le _) sh_179 rfl ?_
      refine ra_iconst rfl ?_
      refine ra_load rfl rfl rfl rfl ?_
      refine ra_iastoreJ (j := 4) rfl sh_180 rfl (by decide) rfl (by decide) ?_
      refine ra_newR (by first | omega | (unfold ra_in at *; omega)) (fun s24 hs24 hs24v hs24o => ?_)
      have hF25 := Fr_tr (lo := 179) (hi := 191) hF hs24 (by omega)
      have hk26 : s24 (183) = σ (183) := (hs24 (183) (by omega)).trans hk0
      have hk27 : s24 (187) = σ (187) := (hs24 (187) (by omega)).trans hk1
      have hg28 : ∀ a, a ≠ 5 → a ≠ 7 → a ≠ 10 → ra_g s24 179 a = ra_g σ 179 a := fun a h5 h7 h10 => (ra_gk (hs24 179 (by omega))).trans (ho3 a h5 h7 h10)
      refine ra_load rfl rfl rfl rfl ?_
      exact ra_ireturn rfl rfl ⟨⟨_, (by first | omega | (unfold ra_in at *; omega)), rfl⟩, ⟨hF25, hk26, hk27, hg28, (WF_set (j := 4) hws (Or.inr rfl) hs24o ⟨by have t := hs24v; omega, by have t := hs24v; omega, fun _ => by have t := hs24v; omega⟩), (PW_k hps (ra_gk (hs24 179 (by omega))) (hs24 184 (by omega)))⟩⟩
    · refine ra_load rfl rfl rfl rfl ?_
      refine ra_getR rfl lk_8_7 (Nat.zero_le _) sh_179 rfl ?_
      refine ra_iconst rfl ?_
      refine ra_load rfl rfl rfl rfl ?_
      refine ra_iastoreJ (j := 4) rfl sh_180 rfl (by decide) rfl (by decide) ?_
      refine ra_newR (by first | omega | (unfold ra_in at *; omega)) (fun s29 hs29 hs29v hs29o => ?_)
      have hF30 := Fr_tr (lo := 179) (hi := 191) hF hs29 (by omega)
      have hk31 : s29 (183) = σ (183) := (hs29 (183) (by omega)).trans hk0
      have hk32 : s29 (187) = σ (187) := (hs29 (187) (by omega)).trans hk1
      have hg33 : ∀ a, a ≠ 5 → a ≠ 7 → a ≠ 10 → ra_g s29 179 a = ra_g σ 179 a := fun a h5 h7 h10 => (ra_gk (hs29 179 (by omega))).trans (ho3 a h5 h7 h10)
      refine ra_load rfl rfl rfl rfl ?_
      refine ra_load rfl rfl rfl rfl ?_
      refine ra_load rfl rfl rfl rfl ?_
      refine ra_cIPp (sp_223 hx0 hx1 (WF_set (j := 4) hws (Or.inr rfl) hs29o ⟨by have t := hs29v; omega, by have t := hs29v; omega, fun _ => by have t := hs29v; omega⟩) ⟨hsp.1, hsp.2.1, (hs29o _ (by omega)).trans hsp.2.2⟩) rfl (ct_223 rfl lk_8_183 (Or.inl rfl) sh_179 (Nat.le_of_ble_eq_true rfl)) (fun z35 hz35 hz35p => ?_)
      refine ra_ifeq rfl rfl hz35 (fun h36 => ?_) (fun h36 => ?_)
      · refine ra_load rfl rfl rfl rfl ?_
        refine ra_load rfl rfl rfl rfl ?_
        refine ra_load rfl rfl rfl rfl ?_
        refine ra_cIp (sp_226 hx0 hx1 (WF_set (j := 4) hws (Or.inr rfl) hs29o ⟨by have t := hs29v; omega, by have t := hs29v; omega, fun _ => by have t := hs29v; omega⟩) ⟨hsp.1, hsp.2.1, (hs29o _ (by omega)).trans hsp.2.2⟩ (mok_to (WF_set (j := 4) hws (Or.inr rfl) hs29o ⟨by have t := hs29v; omega, by have t := hs29v; omega, fun _ => by have t := hs29v; omega⟩) (hz35p (by omega)))) rfl (ct_226 rfl lk_8_388 (Or.inl rfl) sh_179 (Nat.le_of_ble_eq_true rfl)) (fun z38 hz38 => ?_)
        refine ra_store (L' := [_, _, _, _, _, _, _, _]) rfl rfl rfl (Nat.le_of_ble_eq_true rfl) rfl ?_
        refine ra_load rfl rfl rfl rfl ?_
        refine ra_iconst rfl ?_
        refine ra_iceq rfl rfl (by first | omega | (unfold ra_in at *; omega)) (by first | omega | (unfold ra_in at *; omega)) (fun h39 => ?_) (fun h39 => ?_)
        · refine ra_load rfl rfl rfl rfl ?_
          refine ra_store (L' := [_, _, _, _, _, _, _, _]) rfl rfl rfl (Nat.le_of_ble_eq_true rfl) rfl ?_
          refine ra_load rfl rfl rfl rfl ?_
          refine ra_store (L' := [_, _, _, _, _, _, _, _]) rfl rfl rfl (Nat.le_of_ble_eq_true rfl) rfl ?_
          refine ra_iinc (L' := [_, _, _, _, _, _, _, _]) rfl rfl (Nat.le_of_ble_eq_true rfl) rfl ?_
          refine ra_goto rfl rfl ?_
          exact ra_weak (by repeat' constructor) (ih v3 v6 z38 (v6 + 1) s29 (by first | omega | (unfold ra_in at *; omega)) (by first | omega | (unfold ra_in at *; omega)) (by first | omega | (unfold ra_in at *; omega)) hz38 (by first | omega | (unfold ra_in at *; omega)) (by first | omega | (unfold ra_in at *; omega)) hF30 hk31 hk32 (WF_set (j := 4) hws (Or.inr rfl) hs29o ⟨by have t := hs29v; omega, by have t := hs29v; omega, fun _ => by have t := hs29v; omega⟩) (PW_k hps (ra_gk (hs29 179 (by omega))) (hs29 184 (by omega))) (⟨hsp.1, hsp.2.1, (hs29o _ (by omega)).trans hsp.2.2⟩) hg33 (by first | omega | (unfold ra_in at *; omega)))
        · refine ra_load rfl rfl rfl rfl ?_
          refine ra_load rfl rfl rfl rfl ?_
          refine ra_iclt rfl rfl hz38 (by first | omega | (unfold ra_in at *; omega)) (fun h40 => ?_) (fun h40 => ?_)
          · refine ra_load rfl rfl rfl rfl ?_
            refine ra_store (L' := [_, _, _, _, _, _, _, _]) rfl rfl rfl (Nat.le_of_ble_eq_true rfl) rfl ?_
            refine ra_load rfl rfl rfl rfl ?_
            refine ra_store (L' := [_, _, _, _, _, _, _, _]) rfl rfl rfl (Nat.le_of_ble_eq_true rfl) rfl ?_
            refine ra_iinc (L' := [_, _, _, _, _, _, _, _]) rfl rfl (Nat.le_of_ble_eq_true rfl) rfl ?_
            refine ra_goto rfl rfl ?_
            exact ra_weak (by repeat' constructor) (ih v3 v6 z38 (v6 + 1) s29 (by first | omega | (unfold ra_in at *; omega)) (by first | omega | (unfold ra_in at *; omega)) (by first | omega | (unfold ra_in at *; omega)) hz38 (by first | omega | (unfold ra_in at *; omega)) (by first | omega | (unfold ra_in at *; omega)) hF30 hk31 hk32 (WF_set (j := 4) hws (Or.inr rfl) hs29o ⟨by have t := hs29v; omega, by have t := hs29v; omega, fun _ => by have t := hs29v; omega⟩) (PW_k hps (ra_gk (hs29 179 (by omega))) (hs29 184 (by omega))) (⟨hsp.1, hsp.2.1, (hs29o _ (by omega)).trans hsp.2.2⟩) hg33 (by first | omega | (unfold ra_in at *; omega)))
          · refine ra_goto rfl rfl ?_
            refine ra_iinc (L' := [_, _, _, _, _, _, _, _]) rfl rfl (Nat.le_of_ble_eq_true rfl) rfl ?_
            refine ra_goto rfl rfl ?_
            exact ra_weak (by repeat' constructor) (ih v3 v4 v5 (v6 + 1) s29 (by first | omega | (unfold ra_in at *; omega)) (by first | omega | (unfold ra_in at *; omega)) (by first | omega | (unfold ra_in at *; omega)) (by first | omega | (unfold ra_in at *; omega)) (by first | omega | (unfold ra_in at *; omega)) (by first | omega | (unfold ra_in at *; omega)) hF30 hk31 hk32 (WF_set (j := 4) hws (Or.inr rfl) hs29o ⟨by have t := hs29v; omega, by have t := hs29v; omega, fun _ => by have t := hs29v; omega⟩) (PW_k hps (ra_gk (hs29 179 (by omega))) (hs29 184 (by omega))) (⟨hsp.1, hsp.2.1, (hs29o _ (by omega)).trans hsp.2.2⟩) hg33 (by first | omega | (unfold ra_in at *; omega)))
      · refine ra_goto rfl rfl ?_
        refine ra_iinc (L' := [_, _, _, _, _, _, _, _]) rfl rfl (Nat.le_of_ble_eq_true rfl) rfl ?_
        refine ra_goto rfl rfl ?_
        exact ra_weak (by repeat' constructor) (ih v3 v4 v5 (v6 + 1) s29 (by first | omega | (unfold ra_in at *; omega)) (by first | omega | (unfold ra_in at *; omega)) (by first | omega | (unfold ra_in at *; omega)) (by first | omega | (unfold ra_in at *; omega)) (by first | omega | (unfold ra_in at *; omega)) (by first | omega | (unfold ra_in at *; omega)) hF30 hk31 hk32 (WF_set (j := 4) hws (Or.inr rfl) hs29o ⟨by have t := hs29v; omega, by have t := hs29v; omega, fun _ => by have t := hs29v; omega⟩) (PW_k hps (ra_gk (hs29 179 (by omega))) (hs29 184 (by omega))) (⟨hsp.1, hsp.2.1, (hs29o _ (by omega)).trans hsp.2.2⟩) hg33 (by first | omega | (unfold ra_in at *; omega)))
theorem sp_333 {n : Nat} {f : Nat → Int32} {d : Nat} {x0 : Int} {x1 : Int} {σ : ra_V} (hx0 : ra_in x0) (hx1 : ra_in x1) (hw : WF σ) (hpw : PW σ) : ra_C (g_Gs n f) g_sh 0 (d + 5) 333 [.index (179), ra_I x0, ra_I x1] σ (fun r s => rI r ∧ Fr (179) (191) σ s ∧ s (183) = σ (183) ∧ s (187) = σ (187) ∧ (∀ a, a ≠ 5 → a ≠ 7 → a ≠ 10 → ra_g s 179 a = ra_g σ 179 a) ∧ WF s ∧ PW s) := by
  refine ra_enter (nn := 5) mt_333 rfl (Nat.le_of_ble_eq_true rfl) rfl (fun h => absurd h (by decide +kernel)) ?_
  have hw0 := WF_a hw
  unfold WFa at hw0
  refine ra_load rfl rfl rfl rfl ?_
  refine ra_iconst rfl ?_
  refine ra_putI rfl lk_8_51 (Nat.zero_le _) sh_179 rfl rfl ?_
  refine ra_newU (by first | omega | (unfold ra_in at *; omega)) (fun s1 hs1 hp2 hp2o => ?_)
  have hp2_99 := hp2o 99 (by decide)
  have hF3 := Fr_tr (lo := 179) (hi := 191) Fr_rf hs1 (by omega)
  have hk4 : s1 (180) = σ (180) := (hs1 (180) (by omega))
  have hk5 : s1 (183) = σ (183) := (hs1 (183) (by omega))
  have hk6 : s1 (184) = σ (184) := (hs1 (184) (by omega))
  have hk7 : s1 (187) = σ (187) := (hs1 (187) (by omega))
  have hg8 : ∀ a, a ≠ 5 → a ≠ 7 → a ≠ 10 → ra_g s1 179 a = ra_g σ 179 a := fun a h5 h7 h10 => ((fun a h7 h10 => hp2o a h7) a h7 h10).trans ((fun _ _ _ _ => rfl) a h5 h7 h10)
  have ho9 : ∀ a, a ≠ 7 → a ≠ 10 → ra_g s1 179 a = ra_g σ 179 a := fun a h7 h10 => ((fun a h7 h10 => hp2o a h7) a h7 h10).trans ((fun _ _ _ => rfl) a h7 h10)
  refine ra_load rfl rfl rfl rfl ?_
  refine ra_load rfl rfl rfl rfl ?_
  refine ra_iconst rfl ?_
  refine ra_cQP (sp_267 hx0 (by first | omega | (unfold ra_in at *; omega))) rfl (ct_267 rfl lk_8_318 (Or.inl rfl) sh_179 (Nat.le_of_ble_eq_true rfl)) (fun z11 s10 hz11 hz11p hs10 => ?_)
  rw [wq_k hk4] at hz11p
  obtain ⟨hf12, he13⟩ := hs10
  have hF14 := Fr_tr (lo := 179) (hi := 191) hF3 hf12 (by omega)
  have hk15 : s10 (180) = σ (180) := (hf12 (180) (by omega)).trans hk4
  have hk16 : s10 (183) = σ (183) := (hf12 (183) (by omega)).trans hk5
  have hk17 : s10 (184) = σ (184) := (hf12 (184) (by omega)).trans hk6
  have hk18 : s10 (187) = σ (187) := (hf12 (187) (by omega)).trans hk7
  have hg19 : ∀ a, a ≠ 5 → a ≠ 7 → a ≠ 10 → ra_g s10 179 a = ra_g σ 179 a := fun a h5 h7 h10 => ((fun a h7 h10 => he13 a h7) a h7 h10).trans (hg8 a h5 h7 h10)
  have ho20 : ∀ a, a ≠ 7 → a ≠ 10 → ra_g s10 179 a = ra_g σ 179 a := fun a h7 h10 => ((fun a h7 h10 => he13 a h7) a h7 h10).trans (ho9 a h7 h10)
  refine ra_ifeq rfl rfl (ra_in01 hz11) (fun h21 => ?_) (fun h21 => ?_)
  · have hp := hz11p (by omega)
    have hq := WF_p hw hp.1 hp.2.1 hp.2.2
    refine ra_load rfl rfl rfl rfl ?_
    refine ra_getR rfl lk_8_7 (Nat.zero_le _) sh_179 rfl ?_
    refine ra_iconst rfl ?_
    refine ra_ialoadJ (j := 4) rfl sh_180 rfl (by decide) rfl (by decide) ?_
    rw [ra_gk hk15]
    have hr22 : ra_in (ra_g σ (180) 4) := (ra_in_g _ _ _)
    refine ra_store (L' := [_, _, _, _, _, _, _, _]) rfl rfl rfl (Nat.le_of_ble_eq_true rfl) rfl ?_
    refine ra_iconst rfl ?_
    refine ra_store (L' := [_, _, _, _, _, _, _, _]) rfl rfl rfl (Nat.le_of_ble_eq_true rfl) rfl ?_
    refine ra_iconst rfl ?_
    refine ra_store (L' := [_, _, _, _, _, _, _, _]) rfl rfl rfl (Nat.le_of_ble_eq_true rfl) rfl ?_
    refine ra_iconst rfl ?_
    refine ra_store (L' := [_, _, _, _, _, _, _, _]) rfl rfl rfl (Nat.le_of_ble_eq_true rfl) rfl ?_
    exact ra_weak (by repeat' constructor) (lp_333_32 hx0 hx1 hw hpw _ (ra_g σ (180) 4) (-1) (0) (1) s10 (by first | omega | (unfold ra_in at *; omega)) (by first | omega | (unfold ra_in at *; omega)) (by first | omega | (unfold ra_in at *; omega)) (by first | omega | (unfold ra_in at *; omega)) (by first | omega | (unfold ra_in at *; omega)) (by first | omega | (unfold ra_in at *; omega)) hF14 hk16 hk18 (WF_k hk15 hw) (PW_k hpw (ho20 5 (by decide) (by decide)) hk17) (⟨hp.1, hp.2.1, (wq_k hk15).trans hp.2.2⟩) hg19 (Nat.lt_succ_self _))
  · refine ra_iconst rfl ?_
    exact ra_ireturn rfl rfl ⟨⟨_, (by first | omega | (unfold ra_in at *; omega)), rfl⟩, ⟨hF14, hk16, hk18, hg19, (WF_k hk15 hw), (PW_k hpw (ho20 5 (by decide) (by decide)) hk17)⟩⟩
end RB
