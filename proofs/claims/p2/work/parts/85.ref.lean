/-! the reference: what its methods do (printed by wip/gen/ref.py) -/
section RB
theorem sp_320 {n : Nat} {f : Nat → Int32} {d : Nat}  {σ : ra_V} (hw : WF σ) (hpw : PW σ) : ra_C (g_Gs n f) g_sh 0 (d + 4) 320 [.index (179)] σ (fun r s => rI r ∧ Fr (179) (191) σ s ∧ s (183) = σ (183) ∧ (∀ a, a ≠ 5 → a ≠ 7 → a ≠ 10 → ra_g s 179 a = ra_g σ 179 a) ∧ WF s ∧ PW s) := by
  refine ra_enter (nn := 1) mt_320 rfl (Nat.le_of_ble_eq_true rfl) rfl (fun h => absurd h (by decide +kernel)) ?_
  have hw0 := WF_a hw
  unfold WFa at hw0
  refine ra_load rfl rfl rfl rfl ?_
  refine ra_iconst rfl ?_
  refine ra_putI rfl lk_8_51 (Nat.zero_le _) sh_179 rfl rfl ?_
  refine ra_newU (by first | omega | (unfold ra_in at *; omega)) (fun s1 hs1 hp2 hp2o => ?_)
  have hp2_99 := hp2o 99 (by decide)
  have hF3 := Fr_tr (lo := 179) (hi := 191) Fr_rf hs1 (by omega)
  have hk4 : s1 (180) = σ (180) := (hs1 (180) (by omega))
  have hk5 : s1 (183) = σ (183) := (hs1 (183) (by omega))
  have hk6 : s1 (184) = σ (184) := (hs1 (184) (by omega))
  have hg7 : ∀ a, a ≠ 5 → a ≠ 7 → a ≠ 10 → ra_g s1 179 a = ra_g σ 179 a := fun a h5 h7 h10 => ((fun a h7 h10 => hp2o a h7) a h7 h10).trans ((fun _ _ _ _ => rfl) a h5 h7 h10)
  have ho8 : ∀ a, a ≠ 7 → a ≠ 10 → ra_g s1 179 a = ra_g σ 179 a := fun a h7 h10 => ((fun a h7 h10 => hp2o a h7) a h7 h10).trans ((fun _ _ _ => rfl) a h7 h10)
  refine ra_load rfl rfl rfl rfl ?_
  refine ra_load rfl rfl rfl rfl ?_
  refine ra_cQPp (sp_203 ) rfl (ct_203 rfl lk_8_95 (Or.inl rfl) sh_179 (Nat.le_of_ble_eq_true rfl)) (fun z10 hz10 hz10p => ?_)
  refine ra_ifeq rfl rfl (ra_in01 hz10) (fun h11 => ?_) (fun h11 => ?_)
  · refine ra_iconst rfl ?_
    refine ra_goto rfl rfl ?_
    refine ra_iconst rfl ?_
    refine ra_cT (sp_193 (Or.inr rfl) (by first | omega | (unfold ra_in at *; omega))) rfl (ct_193 rfl lk_8_303 (Or.inl rfl) sh_179 (Nat.le_of_ble_eq_true rfl)) (fun s12 hs12 => ?_)
    obtain ⟨hf13, he14⟩ := hs12
    have hF15 := Fr_tr (lo := 179) (hi := 191) hF3 hf13 (by omega)
    have hk16 : s12 (180) = σ (180) := (hf13 (180) (by omega)).trans hk4
    have hk17 : s12 (183) = σ (183) := (hf13 (183) (by omega)).trans hk5
    have hk18 : s12 (184) = σ (184) := (hf13 (184) (by omega)).trans hk6
    have hg19 : ∀ a, a ≠ 5 → a ≠ 7 → a ≠ 10 → ra_g s12 179 a = ra_g σ 179 a := fun a h5 h7 h10 => ((fun a h7 h10 => he14 a h7) a h7 h10).trans (hg7 a h5 h7 h10)
    have ho20 : ∀ a, a ≠ 7 → a ≠ 10 → ra_g s12 179 a = ra_g σ 179 a := fun a h7 h10 => ((fun a h7 h10 => he14 a h7) a h7 h10).trans (ho8 a h7 h10)
    refine ra_ifeq rfl rfl (by first | omega | (unfold ra_in at *; omega)) (fun h21 => ?_) (fun h21 => ?_)
    · exact absurd h21 (by decide)
    · refine ra_iconst rfl ?_
      exact ra_ireturn rfl rfl ⟨⟨_, (by first | omega | (unfold ra_in at *; omega)), rfl⟩, ⟨hF15, hk17, hg19, (WF_k hk16 hw), (PW_k hpw (ho20 5 (by decide) (by decide)) hk18)⟩⟩
  · refine ra_load rfl rfl rfl rfl ?_
    refine ra_getR rfl lk_8_7 (Nat.zero_le _) sh_179 rfl ?_
    refine ra_bipush rfl (by decide) ?_
    refine ra_ialoadJ (j := 22) rfl sh_180 rfl (by decide) rfl (by decide) ?_
    rw [ra_gk hk4]
    have hr22 : ra_in (ra_g σ (180) 22) := (ra_in_g _ _ _)
    refine ra_iconst rfl ?_
    refine ra_icne rfl rfl hr22 (by first | omega | (unfold ra_in at *; omega)) (fun h23 => ?_) (fun h23 => ?_)
    · refine ra_iconst rfl ?_
      refine ra_iconst rfl ?_
      refine ra_cT (sp_193 (Or.inl rfl) (by first | omega | (unfold ra_in at *; omega))) rfl (ct_193 rfl lk_8_303 (Or.inl rfl) sh_179 (Nat.le_of_ble_eq_true rfl)) (fun s24 hs24 => ?_)
      obtain ⟨hf25, he26⟩ := hs24
      have hF27 := Fr_tr (lo := 179) (hi := 191) hF3 hf25 (by omega)
      have hk28 : s24 (180) = σ (180) := (hf25 (180) (by omega)).trans hk4
      have hk29 : s24 (183) = σ (183) := (hf25 (183) (by omega)).trans hk5
      have hk30 : s24 (184) = σ (184) := (hf25 (184) (by omega)).trans hk6
      have hg31 : ∀ a, a ≠ 5 → a ≠ 7 → a ≠ 10 → ra_g s24 179 a = ra_g σ 179 a := fun a h5 h7 h10 => ((fun a h7 h10 => he26 a h7) a h7 h10).trans (hg7 a h5 h7 h10)
      have ho32 : ∀ a, a ≠ 7 → a ≠ 10 → ra_g s24 179 a = ra_g σ 179 a := fun a h7 h10 => ((fun a h7 h10 => he26 a h7) a h7 h10).trans (ho8 a h7 h10)
      refine ra_ifeq rfl rfl (by first | omega | (unfold ra_in at *; omega)) (fun h33 => ?_) (fun h33 => ?_)
      · refine ra_load rfl rfl rfl rfl ?_
        refine ra_cV (sp_196 (WF_k hk28 hw) (PW_k hpw (ho32 5 (by decide) (by decide)) hk30)) rfl (ct_196 rfl lk_8_366 (Or.inl rfl) sh_179 (Nat.le_of_ble_eq_true rfl)) (fun s34 hs34 => ?_)
        obtain ⟨hf35, hc36, hc37, hc38, hc39, he40, he41⟩ := hs34
        have hF42 := Fr_tr (lo := 179) (hi := 191) hF27 hf35 (by omega)
        have hk43 : s34 (180) = σ (180) := hc36.trans hk28
        have hk44 : s34 (183) = σ (183) := hc39.trans hk29
        have hg45 : ∀ a, a ≠ 5 → a ≠ 7 → a ≠ 10 → ra_g s34 179 a = ra_g σ 179 a := fun a h5 h7 h10 => ((fun a h5 h7 h10 => he40 a h5) a h5 h7 h10).trans (hg31 a h5 h7 h10)
        have hmv0 := hz10p.mp (by omega)
        rw [ra_gk hk4] at hmv0
        have hmv : ra_g s34 180 16 ≠ -1 := by rw [ra_gk hk43]; exact hmv0
        refine ra_load rfl rfl rfl rfl ?_
        refine ra_getR rfl lk_8_7 (Nat.zero_le _) sh_179 rfl ?_
        refine ra_bipush rfl (by decide) ?_
        refine ra_ialoadJ (j := 21) rfl sh_180 rfl (by decide) rfl (by decide) ?_
        rw [ra_gk hk43]
        have hr46 : ra_in (ra_g σ (180) 21) := (ra_in_g _ _ _)
        refine ra_ifne rfl rfl hr46 (fun h47 => ?_) (fun h47 => ?_)
        · refine ra_load rfl rfl rfl rfl ?_
          refine ra_getR rfl lk_8_7 (Nat.zero_le _) sh_179 rfl ?_
          refine ra_bipush rfl (by decide) ?_
          refine ra_ialoadJ (j := 17) rfl sh_180 rfl (by decide) rfl (by decide) ?_
          rw [ra_gk hk43]
          have hr48 : ra_in (ra_g σ (180) 17) := (ra_in_g _ _ _)
          refine ra_store (L' := [_, _]) rfl rfl rfl (Nat.le_of_ble_eq_true rfl) rfl ?_
          refine ra_load rfl rfl rfl rfl ?_
          refine ra_getR rfl lk_8_7 (Nat.zero_le _) sh_179 rfl ?_
          refine ra_bipush rfl (by decide) ?_
          refine ra_load rfl rfl rfl rfl ?_
          refine ra_cTp (sp_227 (MV_f (WF_k hk43 hw) hmv)) rfl (ct_227 rfl lk_8_150 (Or.inl rfl) sh_179 (Nat.le_of_ble_eq_true rfl)) ?_
          have hm50 := (MV_f (WF_k hk43 hw) hmv)
          unfold MF at hm50
          have hr51 : ra_in (rch s34) := (by first | omega | (unfold ra_in at *; omega))
          refine ra_load rfl rfl rfl rfl ?_
          refine ra_getR rfl lk_8_7 (Nat.zero_le _) sh_179 rfl ?_
          refine ra_bipush rfl (by decide) ?_
          have e21 : ra_g s34 180 21 = ra_g σ 180 21 := ra_gk hk43
          refine ra_ialoadJ (j := 21) rfl sh_180 rfl (by decide) rfl (by decide) ?_
          rw [ra_gk hk43]
          have hr52 : ra_in (ra_g σ (180) 21) := (ra_in_g _ _ _)
          refine ra_isub rfl ?_
          refine ra_iastoreJ (j := 21) rfl sh_180 rfl (by decide) rfl (by decide) ?_
          refine ra_newR (by first | omega | (unfold ra_in at *; omega)) (fun s53 hs53 hs53v hs53o => ?_)
          have hF54 := Fr_tr (lo := 179) (hi := 191) hF42 hs53 (by omega)
          have hk55 : s53 (183) = σ (183) := (hs53 (183) (by omega)).trans hk44
          have hg56 : ∀ a, a ≠ 5 → a ≠ 7 → a ≠ 10 → ra_g s53 179 a = ra_g σ 179 a := fun a h5 h7 h10 => (ra_gk (hs53 179 (by omega))).trans (hg45 a h5 h7 h10)
          refine ra_load rfl rfl rfl rfl ?_
          refine ra_getR rfl lk_8_7 (Nat.zero_le _) sh_179 rfl ?_
          refine ra_bipush rfl (by decide) ?_
          refine ra_load rfl rfl rfl rfl ?_
          refine ra_getR rfl lk_8_7 (Nat.zero_le _) sh_179 rfl ?_
          refine ra_bipush rfl (by decide) ?_
          refine ra_ialoadJ (j := 18) rfl sh_180 rfl (by decide) rfl (by decide) ?_
          have hr57 : ra_in (ra_g s53 (180) 18) := (ra_in_g _ _ _)
          refine ra_iastoreJ (j := 17) rfl sh_180 rfl (by decide) rfl (by decide) ?_
          refine ra_newR hr57 (fun s58 hs58 hs58v hs58o => ?_)
          have hF59 := Fr_tr (lo := 179) (hi := 191) hF54 hs58 (by omega)
          have hk60 : s58 (183) = σ (183) := (hs58 (183) (by omega)).trans hk55
          have hg61 : ∀ a, a ≠ 5 → a ≠ 7 → a ≠ 10 → ra_g s58 179 a = ra_g σ 179 a := fun a h5 h7 h10 => (ra_gk (hs58 179 (by omega))).trans (hg56 a h5 h7 h10)
          refine ra_load rfl rfl rfl rfl ?_
          refine ra_getR rfl lk_8_7 (Nat.zero_le _) sh_179 rfl ?_
          refine ra_bipush rfl (by decide) ?_
          refine ra_load rfl rfl rfl rfl ?_
          refine ra_iastoreJ (j := 18) rfl sh_180 rfl (by decide) rfl (by decide) ?_
          refine ra_newR hr48 (fun s62 hs62 hs62v hs62o => ?_)
          have hF63 := Fr_tr (lo := 179) (hi := 191) hF59 hs62 (by omega)
          have hk64 : s62 (183) = σ (183) := (hs62 (183) (by omega)).trans hk60
          have hg65 : ∀ a, a ≠ 5 → a ≠ 7 → a ≠ 10 → ra_g s62 179 a = ra_g σ 179 a := fun a h5 h7 h10 => (ra_gk (hs62 179 (by omega))).trans (hg61 a h5 h7 h10)
          have e16 : ra_g s62 180 16 = ra_g σ 180 16 := (hs62o 16 (by decide)).trans ((hs58o 16 (by decide)).trans ((hs53o 16 (by decide)).trans (ra_gk hk43)))
          refine ra_load rfl rfl rfl rfl ?_
          refine ra_load rfl rfl rfl rfl ?_
          refine ra_getR rfl lk_8_7 (Nat.zero_le _) sh_179 rfl ?_
          refine ra_bipush rfl (by decide) ?_
          refine ra_ialoadJ (j := 16) rfl sh_180 rfl (by decide) rfl (by decide) ?_
          have hr66 : ra_in (ra_g s62 (180) 16) := (ra_in_g _ _ _)
          refine ra_iconst rfl ?_
          refine ra_load rfl rfl rfl rfl ?_
          refine ra_getR rfl lk_8_7 (Nat.zero_le _) sh_179 rfl ?_
          refine ra_bipush rfl (by decide) ?_
          refine ra_ialoadJ (j := 17) rfl sh_180 rfl (by decide) rfl (by decide) ?_
          have hr67 : ra_in (ra_g s62 (180) 17) := (ra_in_g _ _ _)
          refine ra_cV (sp_200 hr66 (by first | omega | (unfold ra_in at *; omega)) hr67 (by first | assumption | rfl | omega)) rfl (ct_200 rfl lk_8_78 (Or.inl rfl) sh_179 (Nat.le_of_ble_eq_true rfl)) (fun s68 hs68 => ?_)
          obtain ⟨hf69, he70, he71⟩ := hs68
          have hF72 := Fr_tr (lo := 179) (hi := 191) hF63 hf69 (by omega)
          have hk73 : s68 (183) = σ (183) := (hf69 (183) (by omega)).trans hk64
          have hg74 : ∀ a, a ≠ 5 → a ≠ 7 → a ≠ 10 → ra_g s68 179 a = ra_g σ 179 a := fun a h5 h7 h10 => (ra_gk (hf69 179 (by omega))).trans (hg65 a h5 h7 h10)
          have tb := tb_c (WF_k hk43 hw) hmv (by rw [ra_gk hk43]; omega) (by have t := hs53v; have t2 : ra_g s34 180 21 = ra_g σ 180 21 := ra_gk hk43; omega) hs53o hs58v hs58o (hs62v.trans (ra_gk hk43).symm) hs62o rfl he70 he71
          refine ra_load rfl rfl rfl rfl ?_
          refine ra_cIp (sp_234 (MV_f tb.1 (by rw [tb.2]; exact hmv))) rfl (ct_234 rfl lk_8_394 (Or.inl rfl) sh_179 (Nat.le_of_ble_eq_true rfl)) (fun z76 hz76 => ?_)
          exact ra_ireturn rfl rfl ⟨⟨_, hz76, rfl⟩, ⟨hF72, hk73, hg74, tb.1, (PW_k (PW_k (PW_k (PW_k he41 (ra_gk (hs53 179 (by omega))) (hs53 184 (by omega))) (ra_gk (hs58 179 (by omega))) (hs58 184 (by omega))) (ra_gk (hs62 179 (by omega))) (hs62 184 (by omega))) (ra_gk (hf69 179 (by omega))) (hf69 184 (by omega)))⟩⟩
        · refine ra_load rfl rfl rfl rfl ?_
          refine ra_getR rfl lk_8_7 (Nat.zero_le _) sh_179 rfl ?_
          refine ra_bipush rfl (by decide) ?_
          refine ra_iconst rfl ?_
          refine ra_iastoreJ (j := 16) rfl sh_180 rfl (by decide) rfl (by decide) ?_
          refine ra_newR (by first | omega | (unfold ra_in at *; omega)) (fun s77 hs77 hs77v hs77o => ?_)
          have hF78 := Fr_tr (lo := 179) (hi := 191) hF42 hs77 (by omega)
          have hk79 : s77 (183) = σ (183) := (hs77 (183) (by omega)).trans hk44
          have hg80 : ∀ a, a ≠ 5 → a ≠ 7 → a ≠ 10 → ra_g s77 179 a = ra_g σ 179 a := fun a h5 h7 h10 => (ra_gk (hs77 179 (by omega))).trans (hg45 a h5 h7 h10)
          refine ra_iconst rfl ?_
          exact ra_ireturn rfl rfl ⟨⟨_, (by first | omega | (unfold ra_in at *; omega)), rfl⟩, ⟨hF78, hk79, hg80, (mv_off (WF_k hk43 hw) (fun a ha h => hs77o a h) hs77v), (PW_k he41 (ra_gk (hs77 179 (by omega))) (hs77 184 (by omega)))⟩⟩
      · exact absurd h33 (by decide)
    · refine ra_iconst rfl ?_
      refine ra_goto rfl rfl ?_
      refine ra_iconst rfl ?_
      refine ra_cT (sp_193 (Or.inr rfl) (by first | omega | (unfold ra_in at *; omega))) rfl (ct_193 rfl lk_8_303 (Or.inl rfl) sh_179 (Nat.le_of_ble_eq_true rfl)) (fun s81 hs81 => ?_)
      obtain ⟨hf82, he83⟩ := hs81
      have hF84 := Fr_tr (lo := 179) (hi := 191) hF3 hf82 (by omega)
      have hk85 : s81 (180) = σ (180) := (hf82 (180) (by omega)).trans hk4
      have hk86 : s81 (183) = σ (183) := (hf82 (183) (by omega)).trans hk5
      have hk87 : s81 (184) = σ (184) := (hf82 (184) (by omega)).trans hk6
      have hg88 : ∀ a, a ≠ 5 → a ≠ 7 → a ≠ 10 → ra_g s81 179 a = ra_g σ 179 a := fun a h5 h7 h10 => ((fun a h7 h10 => he83 a h7) a h7 h10).trans (hg7 a h5 h7 h10)
      have ho89 : ∀ a, a ≠ 7 → a ≠ 10 → ra_g s81 179 a = ra_g σ 179 a := fun a h7 h10 => ((fun a h7 h10 => he83 a h7) a h7 h10).trans (ho8 a h7 h10)
      refine ra_ifeq rfl rfl (by first | omega | (unfold ra_in at *; omega)) (fun h90 => ?_) (fun h90 => ?_)
      · exact absurd h90 (by decide)
      · refine ra_iconst rfl ?_
        exact ra_ireturn rfl rfl ⟨⟨_, (by first | omega | (unfold ra_in at *; omega)), rfl⟩, ⟨hF84, hk86, hg88, (WF_k hk85 hw), (PW_k hpw (ho89 5 (by decide) (by decide)) hk87)⟩⟩
end RB
