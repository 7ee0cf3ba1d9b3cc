/-! the reference: what its methods do (printed by wip/gen/ref.py) -/
section RB
theorem sp_320 {n : Nat} {f : Nat → Int32} {d : Nat}  {σ : ra_V} (hw : WF σ) (hpw : PW σ) : ra_C (g_Gs n f) g_sh 0 (d + 4) 320 [.index (179)] σ (fun r s => rI r ∧ Fr (179) (191) σ s ∧ s (183) = σ (183) ∧ s (187) = σ (187) ∧ (∀ a, a ≠ 5 → a ≠ 7 → a ≠ 10 → ra_g s 179 a = ra_g σ 179 a) ∧ WF s ∧ PW s) := by
  refine ra_enter (nn := 1) mt_320 rfl (Nat.le_of_ble_eq_true rfl) rfl (fun h => absurd h (by decide +kernel)) ?_
  have hw0 := WF_a hw
  unfold WFa at hw0
  refine ra_load rfl rfl rfl rfl ?_
  refine ra_iconst rfl ?_
  refine ra_putI rfl lk_8_51 (Nat.zero_le _) sh_179 rfl rfl ?_
  refine ra_newU (by first | omega | (unfold ra_in at *; omega)) (fun s1 hs1 hp2 hp2o => ?_)
  have hp2_99 := hp2o 99 (by decide)
  have hF3 := Fr_tr (lo := 179) (hi := 191) Fr_rf hs1 (by omega)
  have hk4 : s1 (180) = σ (180) := (hs1 (180) (by omega))
  have hk5 : s1 (183) = σ (183) := (hs1 (183) (by omega))
  have hk6 : s1 (184) = σ (184) := (hs1 (184) (by omega))
  have hk7 : s1 (187) = σ (187) := (hs1 (187) (by omega))
  have hg8 : ∀ a, a ≠ 5 → a ≠ 7 → a ≠ 10 → ra_g s1 179 a = ra_g σ 179 a := fun a h5 h7 h10 => ((fun a h7 h10 => hp2o a h7) a h7 h10).trans ((fun _ _ _ _ => rfl) a h5 h7 h10)
  have ho9 : ∀ a, a ≠ 7 → a ≠ 10 → ra_g s1 179 a = ra_g σ 179 a := fun a h7 h10 => ((fun a h7 h10 => hp2o a h7) a h7 h10).trans ((fun _ _ _ => rfl) a h7 h10)
  refine ra_load rfl rfl rfl rfl ?_
  refine ra_load rfl rfl rfl rfl ?_
  refine ra_cQPp (sp_203 ) rfl (ct_203 rfl lk_8_95 (Or.inl rfl) sh_179 (Nat.le_of_ble_eq_true rfl)) (fun z11 hz11 hz11p => ?_)
  refine ra_ifeq rfl rfl (ra_in01 hz11) (fun h12 => ?_) (fun h12 => ?_)
  · refine ra_iconst rfl ?_
    refine ra_goto rfl rfl ?_
    refine ra_iconst rfl ?_
    refine ra_cT (sp_193 (Or.inr rfl) (by first | omega | (unfold ra_in at *; omega))) rfl (ct_193 rfl lk_8_303 (Or.inl rfl) sh_179 (Nat.le_of_ble_eq_true rfl)) (fun s13 hs13 => ?_)
    obtain ⟨hf14, he15⟩ := hs13
    have hF16 := Fr_tr (lo := 179) (hi := 191) hF3 hf14 (by omega)
    have hk17 : s13 (180) = σ (180) := (hf14 (180) (by omega)).trans hk4
    have hk18 : s13 (183) = σ (183) := (hf14 (183) (by omega)).trans hk5
    have hk19 : s13 (184) = σ (184) := (hf14 (184) (by omega)).trans hk6
    have hk20 : s13 (187) = σ (187) := (hf14 (187) (by omega)).trans hk7
    have hg21 : ∀ a, a ≠ 5 → a ≠ 7 → a ≠ 10 → ra_g s13 179 a = ra_g σ 179 a := fun a h5 h7 h10 => ((fun a h7 h10 => he15 a h7) a h7 h10).trans (hg8 a h5 h7 h10)
    have ho22 : ∀ a, a ≠ 7 → a ≠ 10 → ra_g s13 179 a = ra_g σ 179 a := fun a h7 h10 => ((fun a h7 h10 => he15 a h7) a h7 h10).trans (ho9 a h7 h10)
    refine ra_ifeq rfl rfl (by first | omega | (unfold ra_in at *; omega)) (fun h23 => ?_) (fun h23 => ?_)
    · exact absurd h23 (by decide)
    · refine ra_iconst rfl ?_
      exact ra_ireturn rfl rfl ⟨⟨_, (by first | omega | (unfold ra_in at *; omega)), rfl⟩, ⟨hF16, hk18, hk20, hg21, (WF_k hk17 hw), (PW_k hpw (ho22 5 (by decide) (by decide)) hk19)⟩⟩
  · refine ra_load rfl rfl rfl rfl ?_
    refine ra_getR rfl lk_8_7 (Nat.zero_le _) sh_179 rfl ?_
    refine ra_bipush rfl (by decide) ?_
    refine ra_ialoadJ (j := 22) rfl sh_180 rfl (by decide) rfl (by decide) ?_
    rw [ra_gk hk4]
    have hr24 : ra_in (ra_g σ (180) 22) := (ra_in_g _ _ _)
    refine ra_iconst rfl ?_
    refine ra_icne rfl rfl hr24 (by first | omega | (unfold ra_in at *; omega)) (fun h25 => ?_) (fun h25 => ?_)
    · refine ra_iconst rfl ?_
      refine ra_iconst rfl ?_
      refine ra_cT (sp_193 (Or.inl rfl) (by first | omega | (unfold ra_in at *; omega))) rfl (ct_193 rfl lk_8_303 (Or.inl rfl) sh_179 (Nat.le_of_ble_eq_true rfl)) (fun s26 hs26 => ?_)
      obtain ⟨hf27, he28⟩ := hs26
      have hF29 := Fr_tr (lo := 179) (hi := 191) hF3 hf27 (by omega)
      have hk30 : s26 (180) = σ (180) := (hf27 (180) (by omega)).trans hk4
      have hk31 : s26 (183) = σ (183) := (hf27 (183) (by omega)).trans hk5
      have hk32 : s26 (184) = σ (184) := (hf27 (184) (by omega)).trans hk6
      have hk33 : s26 (187) = σ (187) := (hf27 (187) (by omega)).trans hk7
      have hg34 : ∀ a, a ≠ 5 → a ≠ 7 → a ≠ 10 → ra_g s26 179 a = ra_g σ 179 a := fun a h5 h7 h10 => ((fun a h7 h10 => he28 a h7) a h7 h10).trans (hg8 a h5 h7 h10)
      have ho35 : ∀ a, a ≠ 7 → a ≠ 10 → ra_g s26 179 a = ra_g σ 179 a := fun a h7 h10 => ((fun a h7 h10 => he28 a h7) a h7 h10).trans (ho9 a h7 h10)
      refine ra_ifeq rfl rfl (by first | omega | (unfold ra_in at *; omega)) (fun h36 => ?_) (fun h36 => ?_)
      · refine ra_load rfl rfl rfl rfl ?_
        refine ra_cV (sp_196 (WF_k hk30 hw) (PW_k hpw (ho35 5 (by decide) (by decide)) hk32)) rfl (ct_196 rfl lk_8_366 (Or.inl rfl) sh_179 (Nat.le_of_ble_eq_true rfl)) (fun s37 hs37 => ?_)
        obtain ⟨hf38, hc39, hc40, hc41, hc42, he43, he44⟩ := hs37
        have hF45 := Fr_tr (lo := 179) (hi := 191) hF29 hf38 (by omega)
        have hk46 : s37 (180) = σ (180) := hc39.trans hk30
        have hk47 : s37 (183) = σ (183) := hc42.trans hk31
        have hk48 : s37 (187) = σ (187) := (hf38 (187) (by omega)).trans hk33
        have hg49 : ∀ a, a ≠ 5 → a ≠ 7 → a ≠ 10 → ra_g s37 179 a = ra_g σ 179 a := fun a h5 h7 h10 => ((fun a h5 h7 h10 => he43 a h5) a h5 h7 h10).trans (hg34 a h5 h7 h10)
        have hmv0 := hz11p.mp (by omega)
        rw [ra_gk hk4] at hmv0
        have hmv : ra_g s37 180 16 ≠ -1 := by rw [ra_gk hk46]; exact hmv0
        refine ra_load rfl rfl rfl rfl ?_
        refine ra_getR rfl lk_8_7 (Nat.zero_le _) sh_179 rfl ?_
        refine ra_bipush rfl (by decide) ?_
        refine ra_ialoadJ (j := 21) rfl sh_180 rfl (by decide) rfl (by decide) ?_
        rw [ra_gk hk46]
        have hr50 : ra_in (ra_g σ (180) 21) := (ra_in_g _ _ _)
        refine ra_ifne rfl rfl hr50 (fun h51 => ?_) (fun h51 => ?_)
        · refine ra_load rfl rfl rfl rfl ?_
          refine ra_getR rfl lk_8_7 (Nat.zero_le _) sh_179 rfl ?_
          refine ra_bipush rfl (by decide) ?_
          refine ra_ialoadJ (j := 17) rfl sh_180 rfl (by decide) rfl (by decide) ?_
          rw [ra_gk hk46]
          have hr52 : ra_in (ra_g σ (180) 17) := (ra_in_g _ _ _)
          refine ra_store (L' := [_, _]) rfl rfl rfl (Nat.le_of_ble_eq_true rfl) rfl ?_
          refine ra_load rfl rfl rfl rfl ?_
          refine ra_getR rfl lk_8_7 (Nat.zero_le _) sh_179 rfl ?_
          refine ra_bipush rfl (by decide) ?_
          refine ra_load rfl rfl rfl rfl ?_
          refine ra_cTp (sp_227 (MV_f (WF_k hk46 hw) hmv)) rfl (ct_227 rfl lk_8_150 (Or.inl rfl) sh_179 (Nat.le_of_ble_eq_true rfl)) ?_
          have hm54 := (MV_f (WF_k hk46 hw) hmv)
          unfold MF at hm54
          have hr55 : ra_in (rch s37) := (by first | omega | (unfold ra_in at *; omega))
          refine ra_load rfl rfl rfl rfl ?_
          refine ra_getR rfl lk_8_7 (Nat.zero_le _) sh_179 rfl ?_
          refine ra_bipush rfl (by decide) ?_
          have e21 : ra_g s37 180 21 = ra_g σ 180 21 := ra_gk hk46
          refine ra_ialoadJ (j := 21) rfl sh_180 rfl (by decide) rfl (by decide) ?_
          rw [ra_gk hk46]
          have hr56 : ra_in (ra_g σ (180) 21) := (ra_in_g _ _ _)
          refine ra_isub rfl ?_
          refine ra_iastoreJ (j := 21) rfl sh_180 rfl (by decide) rfl (by decide) ?_
          refine ra_newR (by first | omega | (unfold ra_in at *; omega)) (fun s57 hs57 hs57v hs57o => ?_)
          have hF58 := Fr_tr (lo := 179) (hi := 191) hF45 hs57 (by omega)
          have hk59 : s57 (183) = σ (183) := (hs57 (183) (by omega)).trans hk47
          have hk60 : s57 (187) = σ (187) := (hs57 (187) (by omega)).trans hk48
          have hg61 : ∀ a, a ≠ 5 → a ≠ 7 → a ≠ 10 → ra_g s57 179 a = ra_g σ 179 a := fun a h5 h7 h10 => (ra_gk (hs57 179 (by omega))).trans (hg49 a h5 h7 h10)
          refine ra_load rfl rfl rfl rfl ?_
          refine ra_getR rfl lk_8_7 (Nat.zero_le _) sh_179 rfl ?_
          refine ra_bipush rfl (by decide) ?_
          refine ra_load rfl rfl rfl rfl ?_
          refine ra_getR rfl lk_8_7 (Nat.zero_le _) sh_179 rfl ?_
          refine ra_bipush rfl (by decide) ?_
          refine ra_ialoadJ (j := 18) rfl sh_180 rfl (by decide) rfl (by decide) ?_
          have hr62 : ra_in (ra_g s57 (180) 18) := (ra_in_g _ _ _)
          refine ra_iastoreJ (j := 17) rfl sh_180 rfl (by decide) rfl (by decide) ?_
          refine ra_newR hr62 (fun s63 hs63 hs63v hs63o => ?_)
          have hF64 := Fr_tr (lo := 179) (hi := 191) hF58 hs63 (by omega)
          have hk65 : s63 (183) = σ (183) := (hs63 (183) (by omega)).trans hk59
          have hk66 : s63 (187) = σ (187) := (hs63 (187) (by omega)).trans hk60
          have hg67 : ∀ a, a ≠ 5 → a ≠ 7 → a ≠ 10 → ra_g s63 179 a = ra_g σ 179 a := fun a h5 h7 h10 => (ra_gk (hs63 179 (by omega))).trans (hg61 a h5 h7 h10)
          refine ra_load rfl rfl rfl rfl ?_
          refine ra_getR rfl lk_8_7 (Nat.zero_le _) sh_179 rfl ?_
          refine ra_bipush rfl (by decide) ?_
          refine ra_load rfl rfl rfl rfl ?_
          refine ra_iastoreJ (j := 18) rfl sh_180 rfl (by decide) rfl (by decide) ?_
          refine ra_newR hr52 (fun s68 hs68 hs68v hs68o => ?_)
          have hF69 := Fr_tr (lo := 179) (hi := 191) hF64 hs68 (by omega)
          have hk70 : s68 (183) = σ (183) := (hs68 (183) (by omega)).trans hk65
          have hk71 : s68 (187) = σ (187) := (hs68 (187) (by omega)).trans hk66
          have hg72 : ∀ a, a ≠ 5 → a ≠ 7 → a ≠ 10 → ra_g s68 179 a = ra_g σ 179 a := fun a h5 h7 h10 => (ra_gk (hs68 179 (by omega))).trans (hg67 a h5 h7 h10)
          have e16 : ra_g s68 180 16 = ra_g σ 180 16 := (hs68o 16 (by decide)).trans ((hs63o 16 (by decide)).trans ((hs57o 16 (by decide)).trans (ra_gk hk46)))
          refine ra_load rfl rfl rfl rfl ?_
          refine ra_load rfl rfl rfl rfl ?_
          refine ra_getR rfl lk_8_7 (Nat.zero_le _) sh_179 rfl ?_
          refine ra_bipush rfl (by decide) ?_
          refine ra_ialoadJ (j := 16) rfl sh_180 rfl (by decide) rfl (by decide) ?_
          have hr73 : ra_in (ra_g s68 (180) 16) := (ra_in_g _ _ _)
          refine ra_iconst rfl ?_
          refine ra_load rfl rfl rfl rfl ?_
          refine ra_getR rfl lk_8_7 (Nat.zero_le _) sh_179 rfl ?_
          refine ra_bipush rfl (by decide) ?_
          refine ra_ialoadJ (j := 17) rfl sh_180 rfl (by decide) rfl (by decide) ?_
          have hr74 : ra_in (ra_g s68 (180) 17) := (ra_in_g _ _ _)
          refine ra_cV (sp_200 hr73 (by first | omega | (unfold ra_in at *; omega)) hr74 (by first | assumption | rfl | omega)) rfl (ct_200 rfl lk_8_78 (Or.inl rfl) sh_179 (Nat.le_of_ble_eq_true rfl)) (fun s75 hs75 => ?_)
          obtain ⟨hf76, he77, he78⟩ := hs75
          have hF79 := Fr_tr (lo := 179) (hi := 191) hF69 hf76 (by omega)
          have hk80 : s75 (183) = σ (183) := (hf76 (183) (by omega)).trans hk70
          have hk81 : s75 (187) = σ (187) := (hf76 (187) (by omega)).trans hk71
          have hg82 : ∀ a, a ≠ 5 → a ≠ 7 → a ≠ 10 → ra_g s75 179 a = ra_g σ 179 a := fun a h5 h7 h10 => (ra_gk (hf76 179 (by omega))).trans (hg72 a h5 h7 h10)
          have tb := tb_c (WF_k hk46 hw) hmv (by rw [ra_gk hk46]; omega) (by have t := hs57v; have t2 : ra_g s37 180 21 = ra_g σ 180 21 := ra_gk hk46; omega) hs57o hs63v hs63o (hs68v.trans (ra_gk hk46).symm) hs68o rfl he77 he78
          refine ra_load rfl rfl rfl rfl ?_
          refine ra_cIp (sp_234 (MV_f tb.1 (by rw [tb.2]; exact hmv))) rfl (ct_234 rfl lk_8_394 (Or.inl rfl) sh_179 (Nat.le_of_ble_eq_true rfl)) (fun z84 hz84 => ?_)
          exact ra_ireturn rfl rfl ⟨⟨_, hz84, rfl⟩, ⟨hF79, hk80, hk81, hg82, tb.1, (PW_k (PW_k (PW_k (PW_k he44 (ra_gk (hs57 179 (by omega))) (hs57 184 (by omega))) (ra_gk (hs63 179 (by omega))) (hs63 184 (by omega))) (ra_gk (hs68 179 (by omega))) (hs68 184 (by omega))) (ra_gk (hf76 179 (by omega))) (hf76 184 (by omega)))⟩⟩
        · refine ra_load rfl rfl rfl rfl ?_
          refine ra_getR rfl lk_8_7 (Nat.zero_le _) sh_179 rfl ?_
          refine ra_bipush rfl (by decide) ?_
          refine ra_iconst rfl ?_
          refine ra_iastoreJ (j := 16) rfl sh_180 rfl (by decide) rfl (by decide) ?_
          refine ra_newR (by first | omega | (unfold ra_in at *; omega)) (fun s85 hs85 hs85v hs85o => ?_)
          have hF86 := Fr_tr (lo := 179) (hi := 191) hF45 hs85 (by omega)
          have hk87 : s85 (183) = σ (183) := (hs85 (183) (by omega)).trans hk47
          have hk88 : s85 (187) = σ (187) := (hs85 (187) (by omega)).trans hk48
          have hg89 : ∀ a, a ≠ 5 → a ≠ 7 → a ≠ 10 → ra_g s85 179 a = ra_g σ 179 a := fun a h5 h7 h10 => (ra_gk (hs85 179 (by omega))).trans (hg49 a h5 h7 h10)
          refine ra_iconst rfl ?_
          exact ra_ireturn rfl rfl ⟨⟨_, (by first | omega | (unfold ra_in at *; omega)), rfl⟩, ⟨hF86, hk87, hk88, hg89, (mv_off (WF_k hk46 hw) (fun a ha h => hs85o a h) hs85v), (PW_k he44 (ra_gk (hs85 179 (by omega))) (hs85 184 (by omega)))⟩⟩
      · exact absurd h36 (by decide)
    · refine ra_iconst rfl ?_
      refine ra_goto rfl rfl ?_
      refine ra_iconst rfl ?_
      refine ra_cT (sp_193 (Or.inr rfl) (by first | omega | (unfold ra_in at *; omega))) rfl (ct_193 rfl lk_8_303 (Or.inl rfl) sh_179 (Nat.le_of_ble_eq_true rfl)) (fun s90 hs90 => ?_)
      obtain ⟨hf91, he92⟩ := hs90
      have hF93 := Fr_tr (lo := 179) (hi := 191) hF3 hf91 (by omega)
      have hk94 : s90 (180) = σ (180) := (hf91 (180) (by omega)).trans hk4
      have hk95 : s90 (183) = σ (183) := (hf91 (183) (by omega)).trans hk5
      have hk96 : s90 (184) = σ (184) := (hf91 (184) (by omega)).trans hk6
      have hk97 : s90 (187) = σ (187) := (hf91 (187) (by omega)).trans hk7
      have hg98 : ∀ a, a ≠ 5 → a ≠ 7 → a ≠ 10 → ra_g s90 179 a = ra_g σ 179 a := fun a h5 h7 h10 => ((fun a h7 h10 => he92 a h7) a h7 h10).trans (hg8 a h5 h7 h10)
      have ho99 : ∀ a, a ≠ 7 → a ≠ 10 → ra_g s90 179 a = ra_g σ 179 a := fun a h7 h10 => ((fun a h7 h10 => he92 a h7) a h7 h10).trans (ho9 a h7 h10)
      refine ra_ifeq rfl rfl (by first | omega | (unfold ra_in at *; omega)) (fun h100 => ?_) (fun h100 => ?_)
      · exact absurd h100 (by decide)
      · refine ra_iconst rfl ?_
        exact ra_ireturn rfl rfl ⟨⟨_, (by first | omega | (unfold ra_in at *; omega)), rfl⟩, ⟨hF93, hk95, hk97, hg98, (WF_k hk94 hw), (PW_k hpw (ho99 5 (by decide) (by decide)) hk96)⟩⟩
end RB
