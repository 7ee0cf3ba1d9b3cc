/-! the reference: what its methods do (printed by wip/gen/ref.py) -/
section RB
theorem sp_308 {n : Nat} {f : Nat → Int32} {d : Nat} {x0 : Int} {x1 : Int} {σ : ra_V} (hx0 : ra_in x0) (hx1 : ra_in x1) (hw : WF σ) (hpw : PW σ) : ra_C (g_Gs n f) g_sh 0 (d + 5) 308 [.index (179), ra_I x0, ra_I x1] σ (fun r s => rI r ∧ Fr (179) (191) σ s ∧ s (183) = σ (183) ∧ (∀ a, a ≠ 5 → a ≠ 7 → a ≠ 10 → ra_g s 179 a = ra_g σ 179 a) ∧ WF s ∧ PW s) := by
  refine ra_enter (nn := 2) mt_308 rfl (Nat.le_of_ble_eq_true rfl) rfl (fun h => absurd h (by decide +kernel)) ?_
  have hw0 := WF_a hw
  unfold WFa at hw0
  refine ra_load rfl rfl rfl rfl ?_
  refine ra_iconst rfl ?_
  refine ra_putI rfl lk_8_51 (Nat.zero_le _) sh_179 rfl rfl ?_
  refine ra_newU (by first | omega | (unfold ra_in at *; omega)) (fun s1 hs1 hp2 hp2o => ?_)
  have hp2_99 := hp2o 99 (by decide)
  have hF3 := Fr_tr (lo := 179) (hi := 191) Fr_rf hs1 (by omega)
  have hk4 : s1 (180) = σ (180) := (hs1 (180) (by omega))
  have hk5 : s1 (183) = σ (183) := (hs1 (183) (by omega))
  have hk6 : s1 (184) = σ (184) := (hs1 (184) (by omega))
  have hg7 : ∀ a, a ≠ 5 → a ≠ 7 → a ≠ 10 → ra_g s1 179 a = ra_g σ 179 a := fun a h5 h7 h10 => ((fun a h7 h10 => hp2o a h7) a h7 h10).trans ((fun _ _ _ _ => rfl) a h5 h7 h10)
  have ho8 : ∀ a, a ≠ 7 → a ≠ 10 → ra_g s1 179 a = ra_g σ 179 a := fun a h7 h10 => ((fun a h7 h10 => hp2o a h7) a h7 h10).trans ((fun _ _ _ => rfl) a h7 h10)
  refine ra_load rfl rfl rfl rfl ?_
  refine ra_load rfl rfl rfl rfl ?_
  refine ra_load rfl rfl rfl rfl ?_
  refine ra_cQPp (sp_201 hx0) rfl (ct_201 rfl lk_8_313 (Or.inl rfl) sh_179 (Nat.le_of_ble_eq_true rfl)) (fun z10 hz10 hz10p => ?_)
  rw [wq_k hk4] at hz10p
  refine ra_ifeq rfl rfl (ra_in01 hz10) (fun h11 => ?_) (fun h11 => ?_)
  · refine ra_iconst rfl ?_
    refine ra_iconst rfl ?_
    refine ra_cT (sp_193 (Or.inl rfl) (by first | omega | (unfold ra_in at *; omega))) rfl (ct_193 rfl lk_8_303 (Or.inl rfl) sh_179 (Nat.le_of_ble_eq_true rfl)) (fun s12 hs12 => ?_)
    obtain ⟨hf13, he14⟩ := hs12
    have hF15 := Fr_tr (lo := 179) (hi := 191) hF3 hf13 (by omega)
    have hk16 : s12 (180) = σ (180) := (hf13 (180) (by omega)).trans hk4
    have hk17 : s12 (183) = σ (183) := (hf13 (183) (by omega)).trans hk5
    have hk18 : s12 (184) = σ (184) := (hf13 (184) (by omega)).trans hk6
    have hg19 : ∀ a, a ≠ 5 → a ≠ 7 → a ≠ 10 → ra_g s12 179 a = ra_g σ 179 a := fun a h5 h7 h10 => ((fun a h7 h10 => he14 a h7) a h7 h10).trans (hg7 a h5 h7 h10)
    have ho20 : ∀ a, a ≠ 7 → a ≠ 10 → ra_g s12 179 a = ra_g σ 179 a := fun a h7 h10 => ((fun a h7 h10 => he14 a h7) a h7 h10).trans (ho8 a h7 h10)
    refine ra_ifeq rfl rfl (by first | omega | (unfold ra_in at *; omega)) (fun h21 => ?_) (fun h21 => ?_)
    · refine ra_load rfl rfl rfl rfl ?_
      refine ra_load rfl rfl rfl rfl ?_
      refine ra_cQPp (sp_201 hx0) rfl (ct_201 rfl lk_8_313 (Or.inl rfl) sh_179 (Nat.le_of_ble_eq_true rfl)) (fun z23 hz23 hz23p => ?_)
      rw [wq_k hk16] at hz23p
      refine ra_ifeq rfl rfl (ra_in01 hz23) (fun h24 => ?_) (fun h24 => ?_)
      · refine ra_iconst rfl ?_
        refine ra_store (L' := [_, _, _, _, _]) rfl rfl rfl (Nat.le_of_ble_eq_true rfl) rfl ?_
        refine ra_load rfl rfl rfl rfl ?_
        refine ra_load rfl rfl rfl rfl ?_
        refine ra_iconst rfl ?_
        refine ra_cT (sp_193 (Or.inl rfl) (by first | omega | (unfold ra_in at *; omega))) rfl (ct_193 rfl lk_8_303 (Or.inl rfl) sh_179 (Nat.le_of_ble_eq_true rfl)) (fun s25 hs25 => ?_)
        obtain ⟨hf26, he27⟩ := hs25
        have hF28 := Fr_tr (lo := 179) (hi := 191) hF15 hf26 (by omega)
        have hk29 : s25 (180) = σ (180) := (hf26 (180) (by omega)).trans hk16
        have hk30 : s25 (183) = σ (183) := (hf26 (183) (by omega)).trans hk17
        have hk31 : s25 (184) = σ (184) := (hf26 (184) (by omega)).trans hk18
        have hg32 : ∀ a, a ≠ 5 → a ≠ 7 → a ≠ 10 → ra_g s25 179 a = ra_g σ 179 a := fun a h5 h7 h10 => ((fun a h7 h10 => he27 a h7) a h7 h10).trans (hg19 a h5 h7 h10)
        have ho33 : ∀ a, a ≠ 7 → a ≠ 10 → ra_g s25 179 a = ra_g σ 179 a := fun a h7 h10 => ((fun a h7 h10 => he27 a h7) a h7 h10).trans (ho20 a h7 h10)
        refine ra_ifne rfl rfl (by first | omega | (unfold ra_in at *; omega)) (fun h34 => ?_) (fun h34 => ?_)
        · exact absurd h34 (by decide)
        · refine ra_load rfl rfl rfl rfl ?_
          refine ra_load rfl rfl rfl rfl ?_
          refine ra_iconst rfl ?_
          refine ra_cQP (sp_267 hx0 (by first | omega | (unfold ra_in at *; omega))) rfl (ct_267 rfl lk_8_318 (Or.inl rfl) sh_179 (Nat.le_of_ble_eq_true rfl)) (fun z36 s35 hz36 hz36p hs35 => ?_)
          rw [wq_k hk29] at hz36p
          obtain ⟨hf37, he38⟩ := hs35
          have hF39 := Fr_tr (lo := 179) (hi := 191) hF28 hf37 (by omega)
          have hk40 : s35 (180) = σ (180) := (hf37 (180) (by omega)).trans hk29
          have hk41 : s35 (183) = σ (183) := (hf37 (183) (by omega)).trans hk30
          have hk42 : s35 (184) = σ (184) := (hf37 (184) (by omega)).trans hk31
          have hg43 : ∀ a, a ≠ 5 → a ≠ 7 → a ≠ 10 → ra_g s35 179 a = ra_g σ 179 a := fun a h5 h7 h10 => ((fun a h7 h10 => he38 a h7) a h7 h10).trans (hg32 a h5 h7 h10)
          have ho44 : ∀ a, a ≠ 7 → a ≠ 10 → ra_g s35 179 a = ra_g σ 179 a := fun a h7 h10 => ((fun a h7 h10 => he38 a h7) a h7 h10).trans (ho33 a h7 h10)
          refine ra_ifeq rfl rfl (ra_in01 hz36) (fun h45 => ?_) (fun h45 => ?_)
          · refine ra_load rfl rfl rfl rfl ?_
            have hp := hz36p (by omega)
            have hst := hz23p.mpr hp
            have hq := WF_p hw hp.1 hp.2.1 hp.2.2
            refine ra_cV (sp_196 (WF_k hk40 hw) (PW_k hpw (ho44 5 (by decide) (by decide)) hk42)) rfl (ct_196 rfl lk_8_366 (Or.inl rfl) sh_179 (Nat.le_of_ble_eq_true rfl)) (fun s46 hs46 => ?_)
            obtain ⟨hf47, hc48, hc49, hc50, hc51, he52, he53⟩ := hs46
            have hF54 := Fr_tr (lo := 179) (hi := 191) hF39 hf47 (by omega)
            have hk55 : s46 (180) = σ (180) := hc48.trans hk40
            have hk56 : s46 (183) = σ (183) := hc51.trans hk41
            have hg57 : ∀ a, a ≠ 5 → a ≠ 7 → a ≠ 10 → ra_g s46 179 a = ra_g σ 179 a := fun a h5 h7 h10 => ((fun a h5 h7 h10 => he52 a h5) a h5 h7 h10).trans (hg43 a h5 h7 h10)
            refine ra_load rfl rfl rfl rfl ?_
            refine ra_load rfl rfl rfl rfl ?_
            refine ra_iconst rfl ?_
            refine ra_cTp (sp_199 hx0 (by first | omega | (unfold ra_in at *; omega)) (by first | assumption | rfl | omega)) rfl (ct_199 rfl lk_8_67 (Or.inl rfl) sh_179 (Nat.le_of_ble_eq_true rfl)) ?_
            rw [wq_k hk55]
            have hr59 : ra_in (wq σ x0 (2)) := (ra_in_wq _ _ _)
            refine ra_load rfl rfl rfl rfl ?_
            refine ra_isub rfl ?_
            refine ra_store (L' := [_, _, _, _, _]) rfl rfl rfl (Nat.le_of_ble_eq_true rfl) rfl ?_
            refine ra_load rfl rfl rfl rfl ?_
            refine ra_load rfl rfl rfl rfl ?_
            refine ra_iconst rfl ?_
            refine ra_load rfl rfl rfl rfl ?_
            refine ra_cV (sp_200 hx0 (by first | omega | (unfold ra_in at *; omega)) hx1 (by first | assumption | rfl | omega)) rfl (ct_200 rfl lk_8_78 (Or.inl rfl) sh_179 (Nat.le_of_ble_eq_true rfl)) (fun s60 hs60 => ?_)
            obtain ⟨hf61, he62, he63⟩ := hs60
            have hF64 := Fr_tr (lo := 179) (hi := 191) hF54 hf61 (by omega)
            have hk65 : s60 (183) = σ (183) := (hf61 (183) (by omega)).trans hk56
            have hg66 : ∀ a, a ≠ 5 → a ≠ 7 → a ≠ 10 → ra_g s60 179 a = ra_g σ 179 a := fun a h5 h7 h10 => (ra_gk (hf61 179 (by omega))).trans (hg57 a h5 h7 h10)
            refine ra_load rfl rfl rfl rfl ?_
            refine ra_load rfl rfl rfl rfl ?_
            refine ra_load rfl rfl rfl rfl ?_
            refine ra_iconst rfl ?_
            refine ra_cTp (sp_199 hx0 (by first | omega | (unfold ra_in at *; omega)) (by first | assumption | rfl | omega)) rfl (ct_199 rfl lk_8_67 (Or.inl rfl) sh_179 (Nat.le_of_ble_eq_true rfl)) ?_
            have hr68 : ra_in (wq s60 x0 (1)) := (ra_in_wq _ _ _)
            refine ra_load rfl rfl rfl rfl ?_
            refine ra_iadd rfl ?_
            refine ra_load rfl rfl rfl rfl ?_
            refine ra_load rfl rfl rfl rfl ?_
            refine ra_load rfl rfl rfl rfl ?_
            refine ra_iconst rfl ?_
            refine ra_cTp (sp_199 hx0 (by first | omega | (unfold ra_in at *; omega)) (by first | assumption | rfl | omega)) rfl (ct_199 rfl lk_8_67 (Or.inl rfl) sh_179 (Nat.le_of_ble_eq_true rfl)) ?_
            have hr70 : ra_in (wq s60 x0 (4)) := (ra_in_wq _ _ _)
            refine ra_iconst rfl ?_
            refine ra_cIPs (sp_209 (by first | omega | (unfold ra_in at *; omega)) (by first | omega | (unfold ra_in at *; omega)) hr70 (by first | omega | (unfold ra_in at *; omega)) (by exfalso; omega) (by omega)) rfl (ct_209 rfl lk_8_250 (Or.inl rfl) sh_179 (Nat.le_of_ble_eq_true rfl)) (fun z72 s71 hz72 hz72p hs71 => ?_)
            have hF73 := Fr_tr (lo := 179) (hi := 191) hF64 hs71 (by omega)
            have hk74 : s71 (183) = σ (183) := (hs71 (183) (by omega)).trans hk65
            have hg75 : ∀ a, a ≠ 5 → a ≠ 7 → a ≠ 10 → ra_g s71 179 a = ra_g σ 179 a := fun a h5 h7 h10 => (ra_gk (hs71 179 (by omega))).trans (hg66 a h5 h7 h10)
            exact ra_ireturn rfl rfl ⟨⟨_, hz72, rfl⟩, ⟨hF73, hk74, hg75, (by exfalso; omega), (PW_k (PW_k he53 (ra_gk (hf61 179 (by omega))) (hf61 184 (by omega))) (ra_gk (hs71 179 (by omega))) (hs71 184 (by omega)))⟩⟩
          · refine ra_iconst rfl ?_
            exact ra_ireturn rfl rfl ⟨⟨_, (by first | omega | (unfold ra_in at *; omega)), rfl⟩, ⟨hF39, hk41, hg43, (WF_k hk40 hw), (PW_k hpw (ho44 5 (by decide) (by decide)) hk42)⟩⟩
      · have hp := hz23p.mp (by omega)
        have hq := WF_p hw hp.1 hp.2.1 hp.2.2
        refine ra_load rfl rfl rfl rfl ?_
        refine ra_load rfl rfl rfl rfl ?_
        refine ra_cQPp (sp_205 hx0 (by first | assumption | rfl | omega)) rfl (ct_205 rfl lk_8_355 (Or.inl rfl) sh_179 (Nat.le_of_ble_eq_true rfl)) (fun z77 hz77 hz77p => ?_)
        refine ra_ifne rfl rfl (ra_in01 hz77) (fun h78 => ?_) (fun h78 => ?_)
        · refine ra_iconst rfl ?_
          refine ra_goto rfl rfl ?_
          refine ra_store (L' := [_, _, _, _, _]) rfl rfl rfl (Nat.le_of_ble_eq_true rfl) rfl ?_
          refine ra_load rfl rfl rfl rfl ?_
          refine ra_load rfl rfl rfl rfl ?_
          refine ra_iconst rfl ?_
          refine ra_cT (sp_193 (Or.inr rfl) (by first | omega | (unfold ra_in at *; omega))) rfl (ct_193 rfl lk_8_303 (Or.inl rfl) sh_179 (Nat.le_of_ble_eq_true rfl)) (fun s79 hs79 => ?_)
          obtain ⟨hf80, he81⟩ := hs79
          have hF82 := Fr_tr (lo := 179) (hi := 191) hF15 hf80 (by omega)
          have hk83 : s79 (180) = σ (180) := (hf80 (180) (by omega)).trans hk16
          have hk84 : s79 (183) = σ (183) := (hf80 (183) (by omega)).trans hk17
          have hk85 : s79 (184) = σ (184) := (hf80 (184) (by omega)).trans hk18
          have hg86 : ∀ a, a ≠ 5 → a ≠ 7 → a ≠ 10 → ra_g s79 179 a = ra_g σ 179 a := fun a h5 h7 h10 => ((fun a h7 h10 => he81 a h7) a h7 h10).trans (hg19 a h5 h7 h10)
          have ho87 : ∀ a, a ≠ 7 → a ≠ 10 → ra_g s79 179 a = ra_g σ 179 a := fun a h7 h10 => ((fun a h7 h10 => he81 a h7) a h7 h10).trans (ho20 a h7 h10)
          refine ra_ifne rfl rfl (by first | omega | (unfold ra_in at *; omega)) (fun h88 => ?_) (fun h88 => ?_)
          · refine ra_iconst rfl ?_
            exact ra_ireturn rfl rfl ⟨⟨_, (by first | omega | (unfold ra_in at *; omega)), rfl⟩, ⟨hF82, hk84, hg86, (WF_k hk83 hw), (PW_k hpw (ho87 5 (by decide) (by decide)) hk85)⟩⟩
          · exact absurd h88 (by decide)
        · refine ra_load rfl rfl rfl rfl ?_
          refine ra_load rfl rfl rfl rfl ?_
          refine ra_iconst rfl ?_
          refine ra_cTp (sp_199 hx0 (by first | omega | (unfold ra_in at *; omega)) (by first | assumption | rfl | omega)) rfl (ct_199 rfl lk_8_67 (Or.inl rfl) sh_179 (Nat.le_of_ble_eq_true rfl)) ?_
          rw [wq_k hk16]
          have hr90 : ra_in (wq σ x0 (1)) := (ra_in_wq _ _ _)
          refine ra_load rfl rfl rfl rfl ?_
          refine ra_iadd rfl ?_
          refine ra_load rfl rfl rfl rfl ?_
          refine ra_getR rfl lk_8_7 (Nat.zero_le _) sh_179 rfl ?_
          refine ra_iconst rfl ?_
          refine ra_ialoadJ (j := 3) rfl sh_180 rfl (by decide) rfl (by decide) ?_
          rw [ra_gk hk16]
          have hr91 : ra_in (ra_g σ (180) 3) := (ra_in_g _ _ _)
          refine ra_irem rfl (by first | omega | (unfold ra_in at *; omega)) hr91 (by omega) ?_
          refine ra_ifne rfl rfl (ra_in_tmod (by first | omega | (unfold ra_in at *; omega)) (by omega)) (fun h92 => ?_) (fun h92 => ?_)
          · refine ra_iconst rfl ?_
            refine ra_goto rfl rfl ?_
            refine ra_store (L' := [_, _, _, _, _]) rfl rfl rfl (Nat.le_of_ble_eq_true rfl) rfl ?_
            refine ra_load rfl rfl rfl rfl ?_
            refine ra_load rfl rfl rfl rfl ?_
            refine ra_iconst rfl ?_
            refine ra_cT (sp_193 (Or.inr rfl) (by first | omega | (unfold ra_in at *; omega))) rfl (ct_193 rfl lk_8_303 (Or.inl rfl) sh_179 (Nat.le_of_ble_eq_true rfl)) (fun s93 hs93 => ?_)
            obtain ⟨hf94, he95⟩ := hs93
            have hF96 := Fr_tr (lo := 179) (hi := 191) hF15 hf94 (by omega)
            have hk97 : s93 (180) = σ (180) := (hf94 (180) (by omega)).trans hk16
            have hk98 : s93 (183) = σ (183) := (hf94 (183) (by omega)).trans hk17
            have hk99 : s93 (184) = σ (184) := (hf94 (184) (by omega)).trans hk18
            have hg100 : ∀ a, a ≠ 5 → a ≠ 7 → a ≠ 10 → ra_g s93 179 a = ra_g σ 179 a := fun a h5 h7 h10 => ((fun a h7 h10 => he95 a h7) a h7 h10).trans (hg19 a h5 h7 h10)
            have ho101 : ∀ a, a ≠ 7 → a ≠ 10 → ra_g s93 179 a = ra_g σ 179 a := fun a h7 h10 => ((fun a h7 h10 => he95 a h7) a h7 h10).trans (ho20 a h7 h10)
            refine ra_ifne rfl rfl (by first | omega | (unfold ra_in at *; omega)) (fun h102 => ?_) (fun h102 => ?_)
            · refine ra_iconst rfl ?_
              exact ra_ireturn rfl rfl ⟨⟨_, (by first | omega | (unfold ra_in at *; omega)), rfl⟩, ⟨hF96, hk98, hg100, (WF_k hk97 hw), (PW_k hpw (ho101 5 (by decide) (by decide)) hk99)⟩⟩
            · exact absurd h102 (by decide)
          · refine ra_load rfl rfl rfl rfl ?_
            refine ra_cIPp (sp_202 (WF_k hk16 hw)) rfl (ct_202 rfl lk_8_298 (Or.inl rfl) sh_179 (Nat.le_of_ble_eq_true rfl)) (fun z104 hz104 hz104p => ?_)
            refine ra_bipush rfl (by decide) ?_
            refine ra_icne rfl rfl hz104 (by first | omega | (unfold ra_in at *; omega)) (fun h105 => ?_) (fun h105 => ?_)
            · refine ra_iconst rfl ?_
              refine ra_store (L' := [_, _, _, _, _]) rfl rfl rfl (Nat.le_of_ble_eq_true rfl) rfl ?_
              refine ra_load rfl rfl rfl rfl ?_
              refine ra_load rfl rfl rfl rfl ?_
              refine ra_iconst rfl ?_
              refine ra_cT (sp_193 (Or.inl rfl) (by first | omega | (unfold ra_in at *; omega))) rfl (ct_193 rfl lk_8_303 (Or.inl rfl) sh_179 (Nat.le_of_ble_eq_true rfl)) (fun s106 hs106 => ?_)
              obtain ⟨hf107, he108⟩ := hs106
              have hF109 := Fr_tr (lo := 179) (hi := 191) hF15 hf107 (by omega)
              have hk110 : s106 (180) = σ (180) := (hf107 (180) (by omega)).trans hk16
              have hk111 : s106 (183) = σ (183) := (hf107 (183) (by omega)).trans hk17
              have hk112 : s106 (184) = σ (184) := (hf107 (184) (by omega)).trans hk18
              have hg113 : ∀ a, a ≠ 5 → a ≠ 7 → a ≠ 10 → ra_g s106 179 a = ra_g σ 179 a := fun a h5 h7 h10 => ((fun a h7 h10 => he108 a h7) a h7 h10).trans (hg19 a h5 h7 h10)
              have ho114 : ∀ a, a ≠ 7 → a ≠ 10 → ra_g s106 179 a = ra_g σ 179 a := fun a h7 h10 => ((fun a h7 h10 => he108 a h7) a h7 h10).trans (ho20 a h7 h10)
              refine ra_ifne rfl rfl (by first | omega | (unfold ra_in at *; omega)) (fun h115 => ?_) (fun h115 => ?_)
              · exact absurd h115 (by decide)
              · refine ra_load rfl rfl rfl rfl ?_
                refine ra_load rfl rfl rfl rfl ?_
                refine ra_iconst rfl ?_
                refine ra_cQP (sp_267 hx0 (by first | omega | (unfold ra_in at *; omega))) rfl (ct_267 rfl lk_8_318 (Or.inl rfl) sh_179 (Nat.le_of_ble_eq_true rfl)) (fun z117 s116 hz117 hz117p hs116 => ?_)
                rw [wq_k hk110] at hz117p
                obtain ⟨hf118, he119⟩ := hs116
                have hF120 := Fr_tr (lo := 179) (hi := 191) hF109 hf118 (by omega)
                have hk121 : s116 (180) = σ (180) := (hf118 (180) (by omega)).trans hk110
                have hk122 : s116 (183) = σ (183) := (hf118 (183) (by omega)).trans hk111
                have hk123 : s116 (184) = σ (184) := (hf118 (184) (by omega)).trans hk112
                have hg124 : ∀ a, a ≠ 5 → a ≠ 7 → a ≠ 10 → ra_g s116 179 a = ra_g σ 179 a := fun a h5 h7 h10 => ((fun a h7 h10 => he119 a h7) a h7 h10).trans (hg113 a h5 h7 h10)
                have ho125 : ∀ a, a ≠ 7 → a ≠ 10 → ra_g s116 179 a = ra_g σ 179 a := fun a h7 h10 => ((fun a h7 h10 => he119 a h7) a h7 h10).trans (ho114 a h7 h10)
                refine ra_ifeq rfl rfl (ra_in01 hz117) (fun h126 => ?_) (fun h126 => ?_)
                · refine ra_load rfl rfl rfl rfl ?_
                  have hx := exn_k hk16 (hz104p.2.2 (by omega))
                  clear hz104p
                  have hp := hz117p (by omega)
                  have hst := hz23p.mpr hp
                  have hfx := hz77p (by omega)
                  rw [wq_k hk16, ra_gk hk16] at hfx
                  have hq := WF_p hw hp.1 hp.2.1 hp.2.2
                  refine ra_cV (sp_196 (WF_k hk121 hw) (PW_k hpw (ho125 5 (by decide) (by decide)) hk123)) rfl (ct_196 rfl lk_8_366 (Or.inl rfl) sh_179 (Nat.le_of_ble_eq_true rfl)) (fun s127 hs127 => ?_)
                  obtain ⟨hf128, hc129, hc130, hc131, hc132, he133, he134⟩ := hs127
                  have hF135 := Fr_tr (lo := 179) (hi := 191) hF120 hf128 (by omega)
                  have hk136 : s127 (180) = σ (180) := hc129.trans hk121
                  have hk137 : s127 (183) = σ (183) := hc132.trans hk122
                  have hg138 : ∀ a, a ≠ 5 → a ≠ 7 → a ≠ 10 → ra_g s127 179 a = ra_g σ 179 a := fun a h5 h7 h10 => ((fun a h5 h7 h10 => he133 a h5) a h5 h7 h10).trans (hg124 a h5 h7 h10)
                  refine ra_load rfl rfl rfl rfl ?_
                  refine ra_load rfl rfl rfl rfl ?_
                  refine ra_iconst rfl ?_
                  refine ra_cTp (sp_199 hx0 (by first | omega | (unfold ra_in at *; omega)) (by first | assumption | rfl | omega)) rfl (ct_199 rfl lk_8_67 (Or.inl rfl) sh_179 (Nat.le_of_ble_eq_true rfl)) ?_
                  rw [wq_k hk136]
                  have hr140 : ra_in (wq σ x0 (2)) := (ra_in_wq _ _ _)
                  refine ra_load rfl rfl rfl rfl ?_
                  refine ra_isub rfl ?_
                  refine ra_store (L' := [_, _, _, _, _]) rfl rfl rfl (Nat.le_of_ble_eq_true rfl) rfl ?_
                  refine ra_load rfl rfl rfl rfl ?_
                  refine ra_load rfl rfl rfl rfl ?_
                  refine ra_iconst rfl ?_
                  refine ra_load rfl rfl rfl rfl ?_
                  refine ra_cV (sp_200 hx0 (by first | omega | (unfold ra_in at *; omega)) hx1 (by first | assumption | rfl | omega)) rfl (ct_200 rfl lk_8_78 (Or.inl rfl) sh_179 (Nat.le_of_ble_eq_true rfl)) (fun s141 hs141 => ?_)
                  obtain ⟨hf142, he143, he144⟩ := hs141
                  have hF145 := Fr_tr (lo := 179) (hi := 191) hF135 hf142 (by omega)
                  have hk146 : s141 (183) = σ (183) := (hf142 (183) (by omega)).trans hk137
                  have hg147 : ∀ a, a ≠ 5 → a ≠ 7 → a ≠ 10 → ra_g s141 179 a = ra_g σ 179 a := fun a h5 h7 h10 => (ra_gk (hf142 179 (by omega))).trans (hg138 a h5 h7 h10)
                  have hb := spl_b (p := x0) ⟨by omega, by omega⟩ he144
                  have hb2 : wq s141 x0 1 = wq σ x0 1 := hb.trans (wq_k hk136)
                  refine ra_load rfl rfl rfl rfl ?_
                  refine ra_load rfl rfl rfl rfl ?_
                  refine ra_load rfl rfl rfl rfl ?_
                  refine ra_iconst rfl ?_
                  refine ra_cTp (sp_199 hx0 (by first | omega | (unfold ra_in at *; omega)) (by first | assumption | rfl | omega)) rfl (ct_199 rfl lk_8_67 (Or.inl rfl) sh_179 (Nat.le_of_ble_eq_true rfl)) ?_
                  have hr149 : ra_in (wq s141 x0 (1)) := (ra_in_wq _ _ _)
                  refine ra_load rfl rfl rfl rfl ?_
                  refine ra_iadd rfl ?_
                  refine ra_load rfl rfl rfl rfl ?_
                  refine ra_load rfl rfl rfl rfl ?_
                  refine ra_load rfl rfl rfl rfl ?_
                  refine ra_iconst rfl ?_
                  refine ra_cTp (sp_199 hx0 (by first | omega | (unfold ra_in at *; omega)) (by first | assumption | rfl | omega)) rfl (ct_199 rfl lk_8_67 (Or.inl rfl) sh_179 (Nat.le_of_ble_eq_true rfl)) ?_
                  have hr151 : ra_in (wq s141 x0 (4)) := (ra_in_wq _ _ _)
                  refine ra_iconst rfl ?_
                  refine ra_cIPs (sp_209 (by first | omega | (unfold ra_in at *; omega)) (by first | omega | (unfold ra_in at *; omega)) hr151 (by first | omega | (unfold ra_in at *; omega)) (spl_x ⟨by omega, by omega⟩ he144 (exm_k hk136 hx)) (by omega)) rfl (ct_209 rfl lk_8_250 (Or.inl rfl) sh_179 (Nat.le_of_ble_eq_true rfl)) (fun z153 s152 hz153 hz153p hs152 => ?_)
                  have hF154 := Fr_tr (lo := 179) (hi := 191) hF145 hs152 (by omega)
                  have hk155 : s152 (183) = σ (183) := (hs152 (183) (by omega)).trans hk146
                  have hg156 : ∀ a, a ≠ 5 → a ≠ 7 → a ≠ 10 → ra_g s152 179 a = ra_g σ 179 a := fun a h5 h7 h10 => (ra_gk (hs152 179 (by omega))).trans (hg147 a h5 h7 h10)
                  exact ra_ireturn rfl rfl ⟨⟨_, hz153, rfl⟩, ⟨hF154, hk155, hg156, (spl_n (WF_k hk136 hw) ⟨hp.1, hp.2.1, (wq_k hk136).trans hp.2.2⟩ (by rw [ra_gk hk136]; exact hfx.2) (by simp only [wq_k hk136]; omega) he143 he144 hz153p rfl (by simp only [wq_k hk136])), (PW_k (PW_k he134 (ra_gk (hf142 179 (by omega))) (hf142 184 (by omega))) (ra_gk (hs152 179 (by omega))) (hs152 184 (by omega)))⟩⟩
                · refine ra_iconst rfl ?_
                  exact ra_ireturn rfl rfl ⟨⟨_, (by first | omega | (unfold ra_in at *; omega)), rfl⟩, ⟨hF120, hk122, hg124, (WF_k hk121 hw), (PW_k hpw (ho125 5 (by decide) (by decide)) hk123)⟩⟩
            · refine ra_iconst rfl ?_
              refine ra_goto rfl rfl ?_
              refine ra_store (L' := [_, _, _, _, _]) rfl rfl rfl (Nat.le_of_ble_eq_true rfl) rfl ?_
              refine ra_load rfl rfl rfl rfl ?_
              refine ra_load rfl rfl rfl rfl ?_
              refine ra_iconst rfl ?_
              refine ra_cT (sp_193 (Or.inr rfl) (by first | omega | (unfold ra_in at *; omega))) rfl (ct_193 rfl lk_8_303 (Or.inl rfl) sh_179 (Nat.le_of_ble_eq_true rfl)) (fun s157 hs157 => ?_)
              obtain ⟨hf158, he159⟩ := hs157
              have hF160 := Fr_tr (lo := 179) (hi := 191) hF15 hf158 (by omega)
              have hk161 : s157 (180) = σ (180) := (hf158 (180) (by omega)).trans hk16
              have hk162 : s157 (183) = σ (183) := (hf158 (183) (by omega)).trans hk17
              have hk163 : s157 (184) = σ (184) := (hf158 (184) (by omega)).trans hk18
              have hg164 : ∀ a, a ≠ 5 → a ≠ 7 → a ≠ 10 → ra_g s157 179 a = ra_g σ 179 a := fun a h5 h7 h10 => ((fun a h7 h10 => he159 a h7) a h7 h10).trans (hg19 a h5 h7 h10)
              have ho165 : ∀ a, a ≠ 7 → a ≠ 10 → ra_g s157 179 a = ra_g σ 179 a := fun a h7 h10 => ((fun a h7 h10 => he159 a h7) a h7 h10).trans (ho20 a h7 h10)
              refine ra_ifne rfl rfl (by first | omega | (unfold ra_in at *; omega)) (fun h166 => ?_) (fun h166 => ?_)
              · refine ra_iconst rfl ?_
                exact ra_ireturn rfl rfl ⟨⟨_, (by first | omega | (unfold ra_in at *; omega)), rfl⟩, ⟨hF160, hk162, hg164, (WF_k hk161 hw), (PW_k hpw (ho165 5 (by decide) (by decide)) hk163)⟩⟩
              · exact absurd h166 (by decide)
    · exact absurd h21 (by decide)
  · have hp := hz10p.mp (by omega)
    have hq := WF_p hw hp.1 hp.2.1 hp.2.2
    refine ra_load rfl rfl rfl rfl ?_
    refine ra_i2l rfl hx1 ?_
    refine ra_load rfl rfl rfl rfl ?_
    refine ra_load rfl rfl rfl rfl ?_
    refine ra_iconst rfl ?_
    refine ra_cTp (sp_199 hx0 (by first | omega | (unfold ra_in at *; omega)) (by first | assumption | rfl | omega)) rfl (ct_199 rfl lk_8_67 (Or.inl rfl) sh_179 (Nat.le_of_ble_eq_true rfl)) ?_
    rw [wq_k hk4]
    have hr168 : ra_in (wq σ x0 (3)) := (ra_in_wq _ _ _)
    refine ra_i2l rfl hr168 ?_
    refine ra_load rfl rfl rfl rfl ?_
    refine ra_load rfl rfl rfl rfl ?_
    refine ra_iconst rfl ?_
    refine ra_cTp (sp_199 hx0 (by first | omega | (unfold ra_in at *; omega)) (by first | assumption | rfl | omega)) rfl (ct_199 rfl lk_8_67 (Or.inl rfl) sh_179 (Nat.le_of_ble_eq_true rfl)) ?_
    rw [wq_k hk4]
    have hr170 : ra_in (wq σ x0 (2)) := (ra_in_wq _ _ _)
    refine ra_iconst rfl ?_
    refine ra_isub rfl ?_
    refine ra_i2l rfl (by first | omega | (unfold ra_in at *; omega)) ?_
    refine ra_cTp (sp_192 hx1 hr168 (by first | omega | (unfold ra_in at *; omega))) rfl (ct_192 rfl lk_8_63 (Or.inl rfl) (Nat.le_of_ble_eq_true rfl)) ?_
    refine ra_ifneB rfl rfl (fun h172 => ?_) (fun h172 => ?_)
    · refine ra_iconst rfl ?_
      refine ra_iconst rfl ?_
      refine ra_cT (sp_193 (Or.inl rfl) (by first | omega | (unfold ra_in at *; omega))) rfl (ct_193 rfl lk_8_303 (Or.inl rfl) sh_179 (Nat.le_of_ble_eq_true rfl)) (fun s173 hs173 => ?_)
      obtain ⟨hf174, he175⟩ := hs173
      have hF176 := Fr_tr (lo := 179) (hi := 191) hF3 hf174 (by omega)
      have hk177 : s173 (180) = σ (180) := (hf174 (180) (by omega)).trans hk4
      have hk178 : s173 (183) = σ (183) := (hf174 (183) (by omega)).trans hk5
      have hk179 : s173 (184) = σ (184) := (hf174 (184) (by omega)).trans hk6
      have hg180 : ∀ a, a ≠ 5 → a ≠ 7 → a ≠ 10 → ra_g s173 179 a = ra_g σ 179 a := fun a h5 h7 h10 => ((fun a h7 h10 => he175 a h7) a h7 h10).trans (hg7 a h5 h7 h10)
      have ho181 : ∀ a, a ≠ 7 → a ≠ 10 → ra_g s173 179 a = ra_g σ 179 a := fun a h7 h10 => ((fun a h7 h10 => he175 a h7) a h7 h10).trans (ho8 a h7 h10)
      refine ra_ifeq rfl rfl (by first | omega | (unfold ra_in at *; omega)) (fun h182 => ?_) (fun h182 => ?_)
      · refine ra_load rfl rfl rfl rfl ?_
        refine ra_load rfl rfl rfl rfl ?_
        refine ra_cQPp (sp_201 hx0) rfl (ct_201 rfl lk_8_313 (Or.inl rfl) sh_179 (Nat.le_of_ble_eq_true rfl)) (fun z184 hz184 hz184p => ?_)
        rw [wq_k hk177] at hz184p
        refine ra_ifeq rfl rfl (ra_in01 hz184) (fun h185 => ?_) (fun h185 => ?_)
        · refine ra_iconst rfl ?_
          refine ra_store (L' := [_, _, _, _, _]) rfl rfl rfl (Nat.le_of_ble_eq_true rfl) rfl ?_
          refine ra_load rfl rfl rfl rfl ?_
          refine ra_load rfl rfl rfl rfl ?_
          refine ra_iconst rfl ?_
          refine ra_cT (sp_193 (Or.inl rfl) (by first | omega | (unfold ra_in at *; omega))) rfl (ct_193 rfl lk_8_303 (Or.inl rfl) sh_179 (Nat.le_of_ble_eq_true rfl)) (fun s186 hs186 => ?_)
          obtain ⟨hf187, he188⟩ := hs186
          have hF189 := Fr_tr (lo := 179) (hi := 191) hF176 hf187 (by omega)
          have hk190 : s186 (180) = σ (180) := (hf187 (180) (by omega)).trans hk177
          have hk191 : s186 (183) = σ (183) := (hf187 (183) (by omega)).trans hk178
          have hk192 : s186 (184) = σ (184) := (hf187 (184) (by omega)).trans hk179
          have hg193 : ∀ a, a ≠ 5 → a ≠ 7 → a ≠ 10 → ra_g s186 179 a = ra_g σ 179 a := fun a h5 h7 h10 => ((fun a h7 h10 => he188 a h7) a h7 h10).trans (hg180 a h5 h7 h10)
          have ho194 : ∀ a, a ≠ 7 → a ≠ 10 → ra_g s186 179 a = ra_g σ 179 a := fun a h7 h10 => ((fun a h7 h10 => he188 a h7) a h7 h10).trans (ho181 a h7 h10)
          refine ra_ifne rfl rfl (by first | omega | (unfold ra_in at *; omega)) (fun h195 => ?_) (fun h195 => ?_)
          · exact absurd h195 (by decide)
          · refine ra_load rfl rfl rfl rfl ?_
            refine ra_load rfl rfl rfl rfl ?_
            refine ra_iconst rfl ?_
            refine ra_cQP (sp_267 hx0 (by first | omega | (unfold ra_in at *; omega))) rfl (ct_267 rfl lk_8_318 (Or.inl rfl) sh_179 (Nat.le_of_ble_eq_true rfl)) (fun z197 s196 hz197 hz197p hs196 => ?_)
            rw [wq_k hk190] at hz197p
            obtain ⟨hf198, he199⟩ := hs196
            have hF200 := Fr_tr (lo := 179) (hi := 191) hF189 hf198 (by omega)
            have hk201 : s196 (180) = σ (180) := (hf198 (180) (by omega)).trans hk190
            have hk202 : s196 (183) = σ (183) := (hf198 (183) (by omega)).trans hk191
            have hk203 : s196 (184) = σ (184) := (hf198 (184) (by omega)).trans hk192
            have hg204 : ∀ a, a ≠ 5 → a ≠ 7 → a ≠ 10 → ra_g s196 179 a = ra_g σ 179 a := fun a h5 h7 h10 => ((fun a h7 h10 => he199 a h7) a h7 h10).trans (hg193 a h5 h7 h10)
            have ho205 : ∀ a, a ≠ 7 → a ≠ 10 → ra_g s196 179 a = ra_g σ 179 a := fun a h7 h10 => ((fun a h7 h10 => he199 a h7) a h7 h10).trans (ho194 a h7 h10)
            refine ra_ifeq rfl rfl (ra_in01 hz197) (fun h206 => ?_) (fun h206 => ?_)
            · refine ra_load rfl rfl rfl rfl ?_
              have hp := hz197p (by omega)
              have hst := hz184p.mpr hp
              have hq := WF_p hw hp.1 hp.2.1 hp.2.2
              refine ra_cV (sp_196 (WF_k hk201 hw) (PW_k hpw (ho205 5 (by decide) (by decide)) hk203)) rfl (ct_196 rfl lk_8_366 (Or.inl rfl) sh_179 (Nat.le_of_ble_eq_true rfl)) (fun s207 hs207 => ?_)
              obtain ⟨hf208, hc209, hc210, hc211, hc212, he213, he214⟩ := hs207
              have hF215 := Fr_tr (lo := 179) (hi := 191) hF200 hf208 (by omega)
              have hk216 : s207 (180) = σ (180) := hc209.trans hk201
              have hk217 : s207 (183) = σ (183) := hc212.trans hk202
              have hg218 : ∀ a, a ≠ 5 → a ≠ 7 → a ≠ 10 → ra_g s207 179 a = ra_g σ 179 a := fun a h5 h7 h10 => ((fun a h5 h7 h10 => he213 a h5) a h5 h7 h10).trans (hg204 a h5 h7 h10)
              refine ra_load rfl rfl rfl rfl ?_
              refine ra_load rfl rfl rfl rfl ?_
              refine ra_iconst rfl ?_
              refine ra_cTp (sp_199 hx0 (by first | omega | (unfold ra_in at *; omega)) (by first | assumption | rfl | omega)) rfl (ct_199 rfl lk_8_67 (Or.inl rfl) sh_179 (Nat.le_of_ble_eq_true rfl)) ?_
              rw [wq_k hk216]
              have hr220 : ra_in (wq σ x0 (2)) := (ra_in_wq _ _ _)
              refine ra_load rfl rfl rfl rfl ?_
              refine ra_isub rfl ?_
              refine ra_store (L' := [_, _, _, _, _]) rfl rfl rfl (Nat.le_of_ble_eq_true rfl) rfl ?_
              refine ra_load rfl rfl rfl rfl ?_
              refine ra_load rfl rfl rfl rfl ?_
              refine ra_iconst rfl ?_
              refine ra_load rfl rfl rfl rfl ?_
              refine ra_cV (sp_200 hx0 (by first | omega | (unfold ra_in at *; omega)) hx1 (by first | assumption | rfl | omega)) rfl (ct_200 rfl lk_8_78 (Or.inl rfl) sh_179 (Nat.le_of_ble_eq_true rfl)) (fun s221 hs221 => ?_)
              obtain ⟨hf222, he223, he224⟩ := hs221
              have hF225 := Fr_tr (lo := 179) (hi := 191) hF215 hf222 (by omega)
              have hk226 : s221 (183) = σ (183) := (hf222 (183) (by omega)).trans hk217
              have hg227 : ∀ a, a ≠ 5 → a ≠ 7 → a ≠ 10 → ra_g s221 179 a = ra_g σ 179 a := fun a h5 h7 h10 => (ra_gk (hf222 179 (by omega))).trans (hg218 a h5 h7 h10)
              refine ra_load rfl rfl rfl rfl ?_
              refine ra_load rfl rfl rfl rfl ?_
              refine ra_load rfl rfl rfl rfl ?_
              refine ra_iconst rfl ?_
              refine ra_cTp (sp_199 hx0 (by first | omega | (unfold ra_in at *; omega)) (by first | assumption | rfl | omega)) rfl (ct_199 rfl lk_8_67 (Or.inl rfl) sh_179 (Nat.le_of_ble_eq_true rfl)) ?_
              have hr229 : ra_in (wq s221 x0 (1)) := (ra_in_wq _ _ _)
              refine ra_load rfl rfl rfl rfl ?_
              refine ra_iadd rfl ?_
              refine ra_load rfl rfl rfl rfl ?_
              refine ra_load rfl rfl rfl rfl ?_
              refine ra_load rfl rfl rfl rfl ?_
              refine ra_iconst rfl ?_
              refine ra_cTp (sp_199 hx0 (by first | omega | (unfold ra_in at *; omega)) (by first | assumption | rfl | omega)) rfl (ct_199 rfl lk_8_67 (Or.inl rfl) sh_179 (Nat.le_of_ble_eq_true rfl)) ?_
              have hr231 : ra_in (wq s221 x0 (4)) := (ra_in_wq _ _ _)
              refine ra_iconst rfl ?_
              refine ra_cIPs (sp_209 (by first | omega | (unfold ra_in at *; omega)) (by first | omega | (unfold ra_in at *; omega)) hr231 (by first | omega | (unfold ra_in at *; omega)) (by exfalso; omega) (by omega)) rfl (ct_209 rfl lk_8_250 (Or.inl rfl) sh_179 (Nat.le_of_ble_eq_true rfl)) (fun z233 s232 hz233 hz233p hs232 => ?_)
              have hF234 := Fr_tr (lo := 179) (hi := 191) hF225 hs232 (by omega)
              have hk235 : s232 (183) = σ (183) := (hs232 (183) (by omega)).trans hk226
              have hg236 : ∀ a, a ≠ 5 → a ≠ 7 → a ≠ 10 → ra_g s232 179 a = ra_g σ 179 a := fun a h5 h7 h10 => (ra_gk (hs232 179 (by omega))).trans (hg227 a h5 h7 h10)
              exact ra_ireturn rfl rfl ⟨⟨_, hz233, rfl⟩, ⟨hF234, hk235, hg236, (by exfalso; omega), (PW_k (PW_k he214 (ra_gk (hf222 179 (by omega))) (hf222 184 (by omega))) (ra_gk (hs232 179 (by omega))) (hs232 184 (by omega)))⟩⟩
            · refine ra_iconst rfl ?_
              exact ra_ireturn rfl rfl ⟨⟨_, (by first | omega | (unfold ra_in at *; omega)), rfl⟩, ⟨hF200, hk202, hg204, (WF_k hk201 hw), (PW_k hpw (ho205 5 (by decide) (by decide)) hk203)⟩⟩
        · have hp := hz184p.mp (by omega)
          have hq := WF_p hw hp.1 hp.2.1 hp.2.2
          refine ra_load rfl rfl rfl rfl ?_
          refine ra_load rfl rfl rfl rfl ?_
          refine ra_cQPp (sp_205 hx0 (by first | assumption | rfl | omega)) rfl (ct_205 rfl lk_8_355 (Or.inl rfl) sh_179 (Nat.le_of_ble_eq_true rfl)) (fun z238 hz238 hz238p => ?_)
          refine ra_ifne rfl rfl (ra_in01 hz238) (fun h239 => ?_) (fun h239 => ?_)
          · refine ra_iconst rfl ?_
            refine ra_goto rfl rfl ?_
            refine ra_store (L' := [_, _, _, _, _]) rfl rfl rfl (Nat.le_of_ble_eq_true rfl) rfl ?_
            refine ra_load rfl rfl rfl rfl ?_
            refine ra_load rfl rfl rfl rfl ?_
            refine ra_iconst rfl ?_
            refine ra_cT (sp_193 (Or.inr rfl) (by first | omega | (unfold ra_in at *; omega))) rfl (ct_193 rfl lk_8_303 (Or.inl rfl) sh_179 (Nat.le_of_ble_eq_true rfl)) (fun s240 hs240 => ?_)
            obtain ⟨hf241, he242⟩ := hs240
            have hF243 := Fr_tr (lo := 179) (hi := 191) hF176 hf241 (by omega)
            have hk244 : s240 (180) = σ (180) := (hf241 (180) (by omega)).trans hk177
            have hk245 : s240 (183) = σ (183) := (hf241 (183) (by omega)).trans hk178
            have hk246 : s240 (184) = σ (184) := (hf241 (184) (by omega)).trans hk179
            have hg247 : ∀ a, a ≠ 5 → a ≠ 7 → a ≠ 10 → ra_g s240 179 a = ra_g σ 179 a := fun a h5 h7 h10 => ((fun a h7 h10 => he242 a h7) a h7 h10).trans (hg180 a h5 h7 h10)
            have ho248 : ∀ a, a ≠ 7 → a ≠ 10 → ra_g s240 179 a = ra_g σ 179 a := fun a h7 h10 => ((fun a h7 h10 => he242 a h7) a h7 h10).trans (ho181 a h7 h10)
            refine ra_ifne rfl rfl (by first | omega | (unfold ra_in at *; omega)) (fun h249 => ?_) (fun h249 => ?_)
            · refine ra_iconst rfl ?_
              exact ra_ireturn rfl rfl ⟨⟨_, (by first | omega | (unfold ra_in at *; omega)), rfl⟩, ⟨hF243, hk245, hg247, (WF_k hk244 hw), (PW_k hpw (ho248 5 (by decide) (by decide)) hk246)⟩⟩
            · exact absurd h249 (by decide)
          · refine ra_load rfl rfl rfl rfl ?_
            refine ra_load rfl rfl rfl rfl ?_
            refine ra_iconst rfl ?_
            refine ra_cTp (sp_199 hx0 (by first | omega | (unfold ra_in at *; omega)) (by first | assumption | rfl | omega)) rfl (ct_199 rfl lk_8_67 (Or.inl rfl) sh_179 (Nat.le_of_ble_eq_true rfl)) ?_
            rw [wq_k hk177]
            have hr251 : ra_in (wq σ x0 (1)) := (ra_in_wq _ _ _)
            refine ra_load rfl rfl rfl rfl ?_
            refine ra_iadd rfl ?_
            refine ra_load rfl rfl rfl rfl ?_
            refine ra_getR rfl lk_8_7 (Nat.zero_le _) sh_179 rfl ?_
            refine ra_iconst rfl ?_
            refine ra_ialoadJ (j := 3) rfl sh_180 rfl (by decide) rfl (by decide) ?_
            rw [ra_gk hk177]
            have hr252 : ra_in (ra_g σ (180) 3) := (ra_in_g _ _ _)
            refine ra_irem rfl (by first | omega | (unfold ra_in at *; omega)) hr252 (by omega) ?_
            refine ra_ifne rfl rfl (ra_in_tmod (by first | omega | (unfold ra_in at *; omega)) (by omega)) (fun h253 => ?_) (fun h253 => ?_)
            · refine ra_iconst rfl ?_
              refine ra_goto rfl rfl ?_
              refine ra_store (L' := [_, _, _, _, _]) rfl rfl rfl (Nat.le_of_ble_eq_true rfl) rfl ?_
              refine ra_load rfl rfl rfl rfl ?_
              refine ra_load rfl rfl rfl rfl ?_
              refine ra_iconst rfl ?_
              refine ra_cT (sp_193 (Or.inr rfl) (by first | omega | (unfold ra_in at *; omega))) rfl (ct_193 rfl lk_8_303 (Or.inl rfl) sh_179 (Nat.le_of_ble_eq_true rfl)) (fun s254 hs254 => ?_)
              obtain ⟨hf255, he256⟩ := hs254
              have hF257 := Fr_tr (lo := 179) (hi := 191) hF176 hf255 (by omega)
              have hk258 : s254 (180) = σ (180) := (hf255 (180) (by omega)).trans hk177
              have hk259 : s254 (183) = σ (183) := (hf255 (183) (by omega)).trans hk178
              have hk260 : s254 (184) = σ (184) := (hf255 (184) (by omega)).trans hk179
              have hg261 : ∀ a, a ≠ 5 → a ≠ 7 → a ≠ 10 → ra_g s254 179 a = ra_g σ 179 a := fun a h5 h7 h10 => ((fun a h7 h10 => he256 a h7) a h7 h10).trans (hg180 a h5 h7 h10)
              have ho262 : ∀ a, a ≠ 7 → a ≠ 10 → ra_g s254 179 a = ra_g σ 179 a := fun a h7 h10 => ((fun a h7 h10 => he256 a h7) a h7 h10).trans (ho181 a h7 h10)
              refine ra_ifne rfl rfl (by first | omega | (unfold ra_in at *; omega)) (fun h263 => ?_) (fun h263 => ?_)
              · refine ra_iconst rfl ?_
                exact ra_ireturn rfl rfl ⟨⟨_, (by first | omega | (unfold ra_in at *; omega)), rfl⟩, ⟨hF257, hk259, hg261, (WF_k hk258 hw), (PW_k hpw (ho262 5 (by decide) (by decide)) hk260)⟩⟩
              · exact absurd h263 (by decide)
            · refine ra_load rfl rfl rfl rfl ?_
              refine ra_cIPp (sp_202 (WF_k hk177 hw)) rfl (ct_202 rfl lk_8_298 (Or.inl rfl) sh_179 (Nat.le_of_ble_eq_true rfl)) (fun z265 hz265 hz265p => ?_)
              refine ra_bipush rfl (by decide) ?_
              refine ra_icne rfl rfl hz265 (by first | omega | (unfold ra_in at *; omega)) (fun h266 => ?_) (fun h266 => ?_)
              · refine ra_iconst rfl ?_
                refine ra_store (L' := [_, _, _, _, _]) rfl rfl rfl (Nat.le_of_ble_eq_true rfl) rfl ?_
                refine ra_load rfl rfl rfl rfl ?_
                refine ra_load rfl rfl rfl rfl ?_
                refine ra_iconst rfl ?_
                refine ra_cT (sp_193 (Or.inl rfl) (by first | omega | (unfold ra_in at *; omega))) rfl (ct_193 rfl lk_8_303 (Or.inl rfl) sh_179 (Nat.le_of_ble_eq_true rfl)) (fun s267 hs267 => ?_)
                obtain ⟨hf268, he269⟩ := hs267
                have hF270 := Fr_tr (lo := 179) (hi := 191) hF176 hf268 (by omega)
                have hk271 : s267 (180) = σ (180) := (hf268 (180) (by omega)).trans hk177
                have hk272 : s267 (183) = σ (183) := (hf268 (183) (by omega)).trans hk178
                have hk273 : s267 (184) = σ (184) := (hf268 (184) (by omega)).trans hk179
                have hg274 : ∀ a, a ≠ 5 → a ≠ 7 → a ≠ 10 → ra_g s267 179 a = ra_g σ 179 a := fun a h5 h7 h10 => ((fun a h7 h10 => he269 a h7) a h7 h10).trans (hg180 a h5 h7 h10)
                have ho275 : ∀ a, a ≠ 7 → a ≠ 10 → ra_g s267 179 a = ra_g σ 179 a := fun a h7 h10 => ((fun a h7 h10 => he269 a h7) a h7 h10).trans (ho181 a h7 h10)
                refine ra_ifne rfl rfl (by first | omega | (unfold ra_in at *; omega)) (fun h276 => ?_) (fun h276 => ?_)
                · exact absurd h276 (by decide)
                · refine ra_load rfl rfl rfl rfl ?_
                  refine ra_load rfl rfl rfl rfl ?_
                  refine ra_iconst rfl ?_
                  refine ra_cQP (sp_267 hx0 (by first | omega | (unfold ra_in at *; omega))) rfl (ct_267 rfl lk_8_318 (Or.inl rfl) sh_179 (Nat.le_of_ble_eq_true rfl)) (fun z278 s277 hz278 hz278p hs277 => ?_)
                  rw [wq_k hk271] at hz278p
                  obtain ⟨hf279, he280⟩ := hs277
                  have hF281 := Fr_tr (lo := 179) (hi := 191) hF270 hf279 (by omega)
                  have hk282 : s277 (180) = σ (180) := (hf279 (180) (by omega)).trans hk271
                  have hk283 : s277 (183) = σ (183) := (hf279 (183) (by omega)).trans hk272
                  have hk284 : s277 (184) = σ (184) := (hf279 (184) (by omega)).trans hk273
                  have hg285 : ∀ a, a ≠ 5 → a ≠ 7 → a ≠ 10 → ra_g s277 179 a = ra_g σ 179 a := fun a h5 h7 h10 => ((fun a h7 h10 => he280 a h7) a h7 h10).trans (hg274 a h5 h7 h10)
                  have ho286 : ∀ a, a ≠ 7 → a ≠ 10 → ra_g s277 179 a = ra_g σ 179 a := fun a h7 h10 => ((fun a h7 h10 => he280 a h7) a h7 h10).trans (ho275 a h7 h10)
                  refine ra_ifeq rfl rfl (ra_in01 hz278) (fun h287 => ?_) (fun h287 => ?_)
                  · refine ra_load rfl rfl rfl rfl ?_
                    have hx := exn_k hk177 (hz265p.2.2 (by omega))
                    clear hz265p
                    have hp := hz278p (by omega)
                    have hst := hz184p.mpr hp
                    have hfx := hz238p (by omega)
                    rw [wq_k hk177, ra_gk hk177] at hfx
                    have hq := WF_p hw hp.1 hp.2.1 hp.2.2
                    refine ra_cV (sp_196 (WF_k hk282 hw) (PW_k hpw (ho286 5 (by decide) (by decide)) hk284)) rfl (ct_196 rfl lk_8_366 (Or.inl rfl) sh_179 (Nat.le_of_ble_eq_true rfl)) (fun s288 hs288 => ?_)
                    obtain ⟨hf289, hc290, hc291, hc292, hc293, he294, he295⟩ := hs288
                    have hF296 := Fr_tr (lo := 179) (hi := 191) hF281 hf289 (by omega)
                    have hk297 : s288 (180) = σ (180) := hc290.trans hk282
                    have hk298 : s288 (183) = σ (183) := hc293.trans hk283
                    have hg299 : ∀ a, a ≠ 5 → a ≠ 7 → a ≠ 10 → ra_g s288 179 a = ra_g σ 179 a := fun a h5 h7 h10 => ((fun a h5 h7 h10 => he294 a h5) a h5 h7 h10).trans (hg285 a h5 h7 h10)
                    refine ra_load rfl rfl rfl rfl ?_
                    refine ra_load rfl rfl rfl rfl ?_
                    refine ra_iconst rfl ?_
                    refine ra_cTp (sp_199 hx0 (by first | omega | (unfold ra_in at *; omega)) (by first | assumption | rfl | omega)) rfl (ct_199 rfl lk_8_67 (Or.inl rfl) sh_179 (Nat.le_of_ble_eq_true rfl)) ?_
                    rw [wq_k hk297]
                    have hr301 : ra_in (wq σ x0 (2)) := (ra_in_wq _ _ _)
                    refine ra_load rfl rfl rfl rfl ?_
                    refine ra_isub rfl ?_
                    refine ra_store (L' := [_, _, _, _, _]) rfl rfl rfl (Nat.le_of_ble_eq_true rfl) rfl ?_
                    refine ra_load rfl rfl rfl rfl ?_
                    refine ra_load rfl rfl rfl rfl ?_
                    refine ra_iconst rfl ?_
                    refine ra_load rfl rfl rfl rfl ?_
                    refine ra_cV (sp_200 hx0 (by first | omega | (unfold ra_in at *; omega)) hx1 (by first | assumption | rfl | omega)) rfl (ct_200 rfl lk_8_78 (Or.inl rfl) sh_179 (Nat.le_of_ble_eq_true rfl)) (fun s302 hs302 => ?_)
                    obtain ⟨hf303, he304, he305⟩ := hs302
                    have hF306 := Fr_tr (lo := 179) (hi := 191) hF296 hf303 (by omega)
                    have hk307 : s302 (183) = σ (183) := (hf303 (183) (by omega)).trans hk298
                    have hg308 : ∀ a, a ≠ 5 → a ≠ 7 → a ≠ 10 → ra_g s302 179 a = ra_g σ 179 a := fun a h5 h7 h10 => (ra_gk (hf303 179 (by omega))).trans (hg299 a h5 h7 h10)
                    have hb := spl_b (p := x0) ⟨by omega, by omega⟩ he305
                    have hb2 : wq s302 x0 1 = wq σ x0 1 := hb.trans (wq_k hk297)
                    refine ra_load rfl rfl rfl rfl ?_
                    refine ra_load rfl rfl rfl rfl ?_
                    refine ra_load rfl rfl rfl rfl ?_
                    refine ra_iconst rfl ?_
                    refine ra_cTp (sp_199 hx0 (by first | omega | (unfold ra_in at *; omega)) (by first | assumption | rfl | omega)) rfl (ct_199 rfl lk_8_67 (Or.inl rfl) sh_179 (Nat.le_of_ble_eq_true rfl)) ?_
                    have hr310 : ra_in (wq s302 x0 (1)) := (ra_in_wq _ _ _)
                    refine ra_load rfl rfl rfl rfl ?_
                    refine ra_iadd rfl ?_
                    refine ra_load rfl rfl rfl rfl ?_
                    refine ra_load rfl rfl rfl rfl ?_
                    refine ra_load rfl rfl rfl rfl ?_
                    refine ra_iconst rfl ?_
                    refine ra_cTp (sp_199 hx0 (by first | omega | (unfold ra_in at *; omega)) (by first | assumption | rfl | omega)) rfl (ct_199 rfl lk_8_67 (Or.inl rfl) sh_179 (Nat.le_of_ble_eq_true rfl)) ?_
                    have hr312 : ra_in (wq s302 x0 (4)) := (ra_in_wq _ _ _)
                    refine ra_iconst rfl ?_
                    refine ra_cIPs (sp_209 (by first | omega | (unfold ra_in at *; omega)) (by first | omega | (unfold ra_in at *; omega)) hr312 (by first | omega | (unfold ra_in at *; omega)) (spl_x ⟨by omega, by omega⟩ he305 (exm_k hk297 hx)) (by omega)) rfl (ct_209 rfl lk_8_250 (Or.inl rfl) sh_179 (Nat.le_of_ble_eq_true rfl)) (fun z314 s313 hz314 hz314p hs313 => ?_)
                    have hF315 := Fr_tr (lo := 179) (hi := 191) hF306 hs313 (by omega)
                    have hk316 : s313 (183) = σ (183) := (hs313 (183) (by omega)).trans hk307
                    have hg317 : ∀ a, a ≠ 5 → a ≠ 7 → a ≠ 10 → ra_g s313 179 a = ra_g σ 179 a := fun a h5 h7 h10 => (ra_gk (hs313 179 (by omega))).trans (hg308 a h5 h7 h10)
                    exact ra_ireturn rfl rfl ⟨⟨_, hz314, rfl⟩, ⟨hF315, hk316, hg317, (spl_n (WF_k hk297 hw) ⟨hp.1, hp.2.1, (wq_k hk297).trans hp.2.2⟩ (by rw [ra_gk hk297]; exact hfx.2) (by simp only [wq_k hk297]; omega) he304 he305 hz314p rfl (by simp only [wq_k hk297])), (PW_k (PW_k he295 (ra_gk (hf303 179 (by omega))) (hf303 184 (by omega))) (ra_gk (hs313 179 (by omega))) (hs313 184 (by omega)))⟩⟩
                  · refine ra_iconst rfl ?_
                    exact ra_ireturn rfl rfl ⟨⟨_, (by first | omega | (unfold ra_in at *; omega)), rfl⟩, ⟨hF281, hk283, hg285, (WF_k hk282 hw), (PW_k hpw (ho286 5 (by decide) (by decide)) hk284)⟩⟩
              · refine ra_iconst rfl ?_
                refine ra_goto rfl rfl ?_
                refine ra_store (L' := [_, _, _, _, _]) rfl rfl rfl (Nat.le_of_ble_eq_true rfl) rfl ?_
                refine ra_load rfl rfl rfl rfl ?_
                refine ra_load rfl rfl rfl rfl ?_
                refine ra_iconst rfl ?_
                refine ra_cT (sp_193 (Or.inr rfl) (by first | omega | (unfold ra_in at *; omega))) rfl (ct_193 rfl lk_8_303 (Or.inl rfl) sh_179 (Nat.le_of_ble_eq_true rfl)) (fun s318 hs318 => ?_)
                obtain ⟨hf319, he320⟩ := hs318
                have hF321 := Fr_tr (lo := 179) (hi := 191) hF176 hf319 (by omega)
                have hk322 : s318 (180) = σ (180) := (hf319 (180) (by omega)).trans hk177
                have hk323 : s318 (183) = σ (183) := (hf319 (183) (by omega)).trans hk178
                have hk324 : s318 (184) = σ (184) := (hf319 (184) (by omega)).trans hk179
                have hg325 : ∀ a, a ≠ 5 → a ≠ 7 → a ≠ 10 → ra_g s318 179 a = ra_g σ 179 a := fun a h5 h7 h10 => ((fun a h7 h10 => he320 a h7) a h7 h10).trans (hg180 a h5 h7 h10)
                have ho326 : ∀ a, a ≠ 7 → a ≠ 10 → ra_g s318 179 a = ra_g σ 179 a := fun a h7 h10 => ((fun a h7 h10 => he320 a h7) a h7 h10).trans (ho181 a h7 h10)
                refine ra_ifne rfl rfl (by first | omega | (unfold ra_in at *; omega)) (fun h327 => ?_) (fun h327 => ?_)
                · refine ra_iconst rfl ?_
                  exact ra_ireturn rfl rfl ⟨⟨_, (by first | omega | (unfold ra_in at *; omega)), rfl⟩, ⟨hF321, hk323, hg325, (WF_k hk322 hw), (PW_k hpw (ho326 5 (by decide) (by decide)) hk324)⟩⟩
                · exact absurd h327 (by decide)
      · exact absurd h182 (by decide)
    · refine ra_iconst rfl ?_
      refine ra_goto rfl rfl ?_
      refine ra_iconst rfl ?_
      refine ra_cT (sp_193 (Or.inr rfl) (by first | omega | (unfold ra_in at *; omega))) rfl (ct_193 rfl lk_8_303 (Or.inl rfl) sh_179 (Nat.le_of_ble_eq_true rfl)) (fun s328 hs328 => ?_)
      obtain ⟨hf329, he330⟩ := hs328
      have hF331 := Fr_tr (lo := 179) (hi := 191) hF3 hf329 (by omega)
      have hk332 : s328 (180) = σ (180) := (hf329 (180) (by omega)).trans hk4
      have hk333 : s328 (183) = σ (183) := (hf329 (183) (by omega)).trans hk5
      have hk334 : s328 (184) = σ (184) := (hf329 (184) (by omega)).trans hk6
      have hg335 : ∀ a, a ≠ 5 → a ≠ 7 → a ≠ 10 → ra_g s328 179 a = ra_g σ 179 a := fun a h5 h7 h10 => ((fun a h7 h10 => he330 a h7) a h7 h10).trans (hg7 a h5 h7 h10)
      have ho336 : ∀ a, a ≠ 7 → a ≠ 10 → ra_g s328 179 a = ra_g σ 179 a := fun a h7 h10 => ((fun a h7 h10 => he330 a h7) a h7 h10).trans (ho8 a h7 h10)
      refine ra_ifeq rfl rfl (by first | omega | (unfold ra_in at *; omega)) (fun h337 => ?_) (fun h337 => ?_)
      · exact absurd h337 (by decide)
      · refine ra_iconst rfl ?_
        exact ra_ireturn rfl rfl ⟨⟨_, (by first | omega | (unfold ra_in at *; omega)), rfl⟩, ⟨hF331, hk333, hg335, (WF_k hk332 hw), (PW_k hpw (ho336 5 (by decide) (by decide)) hk334)⟩⟩
end RB
