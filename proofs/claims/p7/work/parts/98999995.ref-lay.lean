/-! T5: what the reference changes (printed by wip/gen/r6.py) -/
section
theorem s6_217 {n : Nat} {f : Nat → Int32} {d : Nat} {x0 : Int} {σ : ra_V} (hx0 : ra_in x0) (hw : WFa σ) : ra_C (g_Gs n f) g_sh 0 (d + 4) 217 [.index (179), ra_I x0] σ (fun r9 s => (∃ z : Int, (z = 0 ∨ z = 1) ∧ ((z = 1 → (US σ x0 1 ∧ ¬ TK σ x0 1 (-1) ∧ ¬ BT σ x0 1)) ∧ x5HID (z = 1 ↔ x5FRE σ x0)) ∧ r9 = .inl (some (ra_I z))) ∧ s = σ) := ra_C_mono (s5_217 hx0 hw) (fun r s h => by obtain ⟨⟨z, hz, e, er⟩, hs⟩ := h; exact ⟨⟨z, hz, ⟨fun q => x5fre_old (e.mp q), x5hid e⟩, er⟩, hs⟩) (Nat.le_refl _)
theorem l5_218_9 {n : Nat} {f : Nat → Int32} {d : Nat}  {σ : ra_V} (hw : WF σ) : ∀ (nn : Nat) (v1 : Int) (v2 : Int) (s : ra_V) (hv1_0 : v1 = 0 ∨ v1 = 1) (hv2_0 : 0 ≤ v2) (hv2_1 : v2 ≤ ra_g σ 180 0) (hF : Fr (179) (187) σ s) (hk0 : s (180) = σ (180)) (hk1 : s (181) = σ (181)) (hk2 : s (182) = σ (182)) (hk3 : s (183) = σ (183)) (hk4 : s (184) = σ (184)) (hg : GI σ s v1 v2) (hj : x5GJr σ s v1 v2) (hm : ((ra_g σ 180 0 - v2 : Int)).toNat < nn), ra_P (g_Gs n f) g_sh 0 (d + 4) g_m_X8_laysGaps 9 [some (.index (179)), some (ra_I v1), some (ra_I v2), none] [] s (fun r9 s => rV r9 ∧ Fr (179) (187) σ s ∧ s (180) = σ (180) ∧ s (181) = σ (181) ∧ s (182) = σ (182) ∧ s (183) = σ (183) ∧ s (184) = σ (184) ∧ (∀ a, a ≠ 10 → ra_g s 179 a = ra_g σ 179 a) ∧ GZ σ s ∧ x5GFR σ s) := by
  intro nn
  induction nn with
  | zero => intro v1 v2 s hv1_0 hv2_0 hv2_1 hF hk0 hk1 hk2 hk3 hk4 hg hj hm; exact absurd hm (Nat.not_lt_zero _)
  | succ nn ih =>
    intro v1 v2 s hv1_0 hv2_0 hv2_1 hF hk0 hk1 hk2 hk3 hk4 hg hj hm
    have hw0 := WF_a hw
    unfold WFa at hw0
    have hg0 := hg
    obtain ⟨g1, g2, g3, g4, g5⟩ := hg0
    have g6 : v1 = 1 → 0 ≤ ra_g s 185 (ra_g s 179 10 - 1).toNat := fun q => (g4 (ra_g s 179 10 - 1) (by have := g3 q; omega) (by omega)).1
    refine ra_load rfl rfl rfl rfl ?_
    refine ra_load rfl rfl rfl rfl ?_
    refine ra_getR rfl lk_8_7 (Nat.zero_le _) sh_179 rfl ?_
    refine ra_iconst rfl ?_
    refine ra_ialoadJ (j := 0) rfl sh_180 rfl (by decide) rfl (by decide) ?_
    rw [ra_gk hk0]
    have hr9 : ra_in (ra_g σ (180) 0) := (ra_in_g _ _ _)
    refine ra_icge rfl rfl (by first | omega | (unfold ra_in at *; omega)) hr9 (fun h10 => ?_) (fun h10 => ?_)
    · exact ra_return rfl rfl ⟨rfl, ⟨hF, hk0, hk1, hk2, hk3, hk4, hg.2.2.2.2, gi_Z hg hv1_0 (by omega), x5gjr_E hw hj hv1_0 (by omega) (gi_Z hg hv1_0 (by omega))⟩⟩
    · refine ra_load rfl rfl rfl rfl ?_
      refine ra_load rfl rfl rfl rfl ?_
      refine ra_cQPp (s6_217 (by first | omega | (unfold ra_in at *; omega)) (WFa_k hk0 (WF_a hw))) rfl (ct_217 rfl lk_8_117 (Or.inl rfl) sh_179 (Nat.le_of_ble_eq_true rfl)) (fun z12 hz12 hz12p => ?_)
      have hz12o := hz12p.1
      have hz12q := hz12p.2
      clear hz12p
      refine ra_store (L' := [_, _, _, _]) rfl rfl rfl (Nat.le_of_ble_eq_true rfl) rfl ?_
      refine ra_load rfl rfl rfl rfl ?_
      refine ra_ifeq rfl rfl (ra_in01 hz12) (fun h13 => ?_) (fun h13 => ?_)
      · refine ra_load rfl rfl rfl rfl ?_
        refine ra_ifeq rfl rfl (ra_in01 hz12) (fun h14 => ?_) (fun h14 => ?_)
        · refine ra_load rfl rfl rfl rfl ?_
          refine ra_store (L' := [_, _, _, _]) rfl rfl rfl (Nat.le_of_ble_eq_true rfl) rfl ?_
          refine ra_iinc (L' := [_, _, _, _]) rfl rfl (Nat.le_of_ble_eq_true rfl) rfl ?_
          refine ra_goto rfl rfl ?_
          exact ra_weak (by repeat' constructor) (ih z12 (v2 + 1) s hz12 (by first | omega | (unfold ra_in at *; omega)) (by first | omega | (unfold ra_in at *; omega)) hF hk0 hk1 hk2 hk3 hk4 (by have e : z12 = 0 := (by omega); rw [e]; exact gi_A hg hv1_0) (by have e : z12 = 0 := (by omega); rw [e]; exact x5gj_A hj hv1_0 (fun q8 => absurd ((by have q9 := hz12q; rw [x5fre_k hk0] at q9; exact q9 : z12 = 1 ↔ x5FRE σ v2).mpr q8) (by omega))) (by first | omega | (unfold ra_in at *; omega)))
        · refine ra_load rfl rfl rfl rfl ?_
          refine ra_getR rfl lk_8_28 (Nat.zero_le _) sh_179 rfl ?_
          refine ra_load rfl rfl rfl rfl ?_
          refine ra_getI rfl lk_8_114 (Nat.zero_le _) sh_179 rfl ?_
          have hr15 : ra_in (ra_g s (179) 10) := (ra_in_g _ _ _)
          refine ra_iconst rfl ?_
          refine ra_isub rfl ?_
          refine ra_dup2 rfl rfl rfl ?_
          refine ra_iaload rfl sh_186 rfl (by decide) (by first | omega | (unfold ra_in at *; omega)) (by first | omega | (unfold ra_in at *; omega)) ?_
          have hr16 : ra_in (ra_g s (186) ((ra_g s (179) 10) - (1)).toNat) := (ra_in_g _ _ _)
          refine ra_iconst rfl ?_
          refine ra_iadd rfl ?_
          refine ra_iastore rfl sh_186 rfl (by decide) (by first | omega | (unfold ra_in at *; omega)) (by first | omega | (unfold ra_in at *; omega)) ?_
          refine ra_newR (by first | omega | (unfold ra_in at *; omega)) (fun s17 hs17 hs17v hs17o => ?_)
          have hF18 := Fr_tr (lo := 179) (hi := 187) hF hs17 (by omega)
          have hk19 : s17 (180) = σ (180) := (hs17 (180) (by omega)).trans hk0
          have hk20 : s17 (181) = σ (181) := (hs17 (181) (by omega)).trans hk1
          have hk21 : s17 (182) = σ (182) := (hs17 (182) (by omega)).trans hk2
          have hk22 : s17 (183) = σ (183) := (hs17 (183) (by omega)).trans hk3
          have hk23 : s17 (184) = σ (184) := (hs17 (184) (by omega)).trans hk4
          have hk24 : s17 (179) = s (179) := (hs17 (179) (by omega))
          refine ra_load rfl rfl rfl rfl ?_
          refine ra_store (L' := [_, _, _, _]) rfl rfl rfl (Nat.le_of_ble_eq_true rfl) rfl ?_
          refine ra_iinc (L' := [_, _, _, _]) rfl rfl (Nat.le_of_ble_eq_true rfl) rfl ?_
          refine ra_goto rfl rfl ?_
          exact ra_weak (by repeat' constructor) (ih z12 (v2 + 1) s17 hz12 (by first | omega | (unfold ra_in at *; omega)) (by first | omega | (unfold ra_in at *; omega)) hF18 hk19 hk20 hk21 hk22 hk23 (by have e : z12 = 1 := (by omega); rw [e]; exact gi_C (by obtain rfl : v1 = 1 := (by omega); exact hg) (FRq_k hk0 (hz12o (by omega))) (by omega) hs17 hs17v hs17o) (by have e : z12 = 1 := (by omega); rw [e]; exact x5gjr_C (by obtain rfl : v1 = 1 := (by omega); exact hj) ((by have q9 := hz12q; rw [x5fre_k hk0] at q9; exact q9 : z12 = 1 ↔ x5FRE σ v2).mp (by omega)) hs17 hs17v hs17o) (by first | omega | (unfold ra_in at *; omega)))
      · refine ra_load rfl rfl rfl rfl ?_
        refine ra_ifne rfl rfl (ra_in01 hv1_0) (fun h25 => ?_) (fun h25 => ?_)
        · refine ra_load rfl rfl rfl rfl ?_
          refine ra_ifeq rfl rfl (ra_in01 hz12) (fun h26 => ?_) (fun h26 => ?_)
          · refine ra_load rfl rfl rfl rfl ?_
            refine ra_store (L' := [_, _, _, _]) rfl rfl rfl (Nat.le_of_ble_eq_true rfl) rfl ?_
            refine ra_iinc (L' := [_, _, _, _]) rfl rfl (Nat.le_of_ble_eq_true rfl) rfl ?_
            refine ra_goto rfl rfl ?_
            exact ra_weak (by repeat' constructor) (ih z12 (v2 + 1) s hz12 (by first | omega | (unfold ra_in at *; omega)) (by first | omega | (unfold ra_in at *; omega)) hF hk0 hk1 hk2 hk3 hk4 (by have e : z12 = 0 := (by omega); rw [e]; exact gi_A hg hv1_0) (by have e : z12 = 0 := (by omega); rw [e]; exact x5gj_A hj hv1_0 (fun q8 => absurd ((by have q9 := hz12q; rw [x5fre_k hk0] at q9; exact q9 : z12 = 1 ↔ x5FRE σ v2).mpr q8) (by omega))) (by first | omega | (unfold ra_in at *; omega)))
          · refine ra_load rfl rfl rfl rfl ?_
            refine ra_getR rfl lk_8_28 (Nat.zero_le _) sh_179 rfl ?_
            refine ra_load rfl rfl rfl rfl ?_
            refine ra_getI rfl lk_8_114 (Nat.zero_le _) sh_179 rfl ?_
            have hr27 : ra_in (ra_g s (179) 10) := (ra_in_g _ _ _)
            refine ra_iconst rfl ?_
            refine ra_isub rfl ?_
            refine ra_dup2 rfl rfl rfl ?_
            refine ra_iaload rfl sh_186 rfl (by decide) (by first | omega | (unfold ra_in at *; omega)) (by first | omega | (unfold ra_in at *; omega)) ?_
            have hr28 : ra_in (ra_g s (186) ((ra_g s (179) 10) - (1)).toNat) := (ra_in_g _ _ _)
            refine ra_iconst rfl ?_
            refine ra_iadd rfl ?_
            refine ra_iastore rfl sh_186 rfl (by decide) (by first | omega | (unfold ra_in at *; omega)) (by first | omega | (unfold ra_in at *; omega)) ?_
            refine ra_newR (by first | omega | (unfold ra_in at *; omega)) (fun s29 hs29 hs29v hs29o => ?_)
            have hF30 := Fr_tr (lo := 179) (hi := 187) hF hs29 (by omega)
            have hk31 : s29 (180) = σ (180) := (hs29 (180) (by omega)).trans hk0
            have hk32 : s29 (181) = σ (181) := (hs29 (181) (by omega)).trans hk1
            have hk33 : s29 (182) = σ (182) := (hs29 (182) (by omega)).trans hk2
            have hk34 : s29 (183) = σ (183) := (hs29 (183) (by omega)).trans hk3
            have hk35 : s29 (184) = σ (184) := (hs29 (184) (by omega)).trans hk4
            have hk36 : s29 (179) = s (179) := (hs29 (179) (by omega))
            refine ra_load rfl rfl rfl rfl ?_
            refine ra_store (L' := [_, _, _, _]) rfl rfl rfl (Nat.le_of_ble_eq_true rfl) rfl ?_
            refine ra_iinc (L' := [_, _, _, _]) rfl rfl (Nat.le_of_ble_eq_true rfl) rfl ?_
            refine ra_goto rfl rfl ?_
            exact ra_weak (by repeat' constructor) (ih z12 (v2 + 1) s29 hz12 (by first | omega | (unfold ra_in at *; omega)) (by first | omega | (unfold ra_in at *; omega)) hF30 hk31 hk32 hk33 hk34 hk35 (by have e : z12 = 1 := (by omega); rw [e]; exact gi_C (by obtain rfl : v1 = 1 := (by omega); exact hg) (FRq_k hk0 (hz12o (by omega))) (by omega) hs29 hs29v hs29o) (by have e : z12 = 1 := (by omega); rw [e]; exact x5gjr_C (by obtain rfl : v1 = 1 := (by omega); exact hj) ((by have q9 := hz12q; rw [x5fre_k hk0] at q9; exact q9 : z12 = 1 ↔ x5FRE σ v2).mp (by omega)) hs29 hs29v hs29o) (by first | omega | (unfold ra_in at *; omega)))
        · refine ra_load rfl rfl rfl rfl ?_
          refine ra_getR rfl lk_8_25 (Nat.zero_le _) sh_179 rfl ?_
          refine ra_load rfl rfl rfl rfl ?_
          refine ra_getI rfl lk_8_114 (Nat.zero_le _) sh_179 rfl ?_
          have hr37 : ra_in (ra_g s (179) 10) := (ra_in_g _ _ _)
          refine ra_load rfl rfl rfl rfl ?_
          refine ra_iastore rfl sh_185 rfl (by decide) (by first | omega | (unfold ra_in at *; omega)) (by first | omega | (unfold ra_in at *; omega)) ?_
          refine ra_newR (by first | omega | (unfold ra_in at *; omega)) (fun s38 hs38 hs38v hs38o => ?_)
          have hF39 := Fr_tr (lo := 179) (hi := 187) hF hs38 (by omega)
          have hk40 : s38 (180) = σ (180) := (hs38 (180) (by omega)).trans hk0
          have hk41 : s38 (181) = σ (181) := (hs38 (181) (by omega)).trans hk1
          have hk42 : s38 (182) = σ (182) := (hs38 (182) (by omega)).trans hk2
          have hk43 : s38 (183) = σ (183) := (hs38 (183) (by omega)).trans hk3
          have hk44 : s38 (184) = σ (184) := (hs38 (184) (by omega)).trans hk4
          have hk45 : s38 (179) = s (179) := (hs38 (179) (by omega))
          refine ra_load rfl rfl rfl rfl ?_
          refine ra_getR rfl lk_8_28 (Nat.zero_le _) sh_179 rfl ?_
          refine ra_load rfl rfl rfl rfl ?_
          refine ra_getI rfl lk_8_114 (Nat.zero_le _) sh_179 rfl ?_
          rw [ra_gk hk45]
          have hr46 : ra_in (ra_g s (179) 10) := (ra_in_g _ _ _)
          refine ra_iconst rfl ?_
          refine ra_iastore rfl sh_186 rfl (by decide) (by first | omega | (unfold ra_in at *; omega)) (by first | omega | (unfold ra_in at *; omega)) ?_
          refine ra_newR (by first | omega | (unfold ra_in at *; omega)) (fun s47 hs47 hs47v hs47o => ?_)
          have hF48 := Fr_tr (lo := 179) (hi := 187) hF39 hs47 (by omega)
          have hk49 : s47 (180) = σ (180) := (hs47 (180) (by omega)).trans hk40
          have hk50 : s47 (181) = σ (181) := (hs47 (181) (by omega)).trans hk41
          have hk51 : s47 (182) = σ (182) := (hs47 (182) (by omega)).trans hk42
          have hk52 : s47 (183) = σ (183) := (hs47 (183) (by omega)).trans hk43
          have hk53 : s47 (184) = σ (184) := (hs47 (184) (by omega)).trans hk44
          have hk54 : s47 (179) = s (179) := (hs47 (179) (by omega)).trans hk45
          refine ra_load rfl rfl rfl rfl ?_
          refine ra_dup rfl rfl ?_
          refine ra_getI rfl lk_8_114 (Nat.zero_le _) sh_179 rfl ?_
          rw [ra_gk hk54]
          have hr55 : ra_in (ra_g s (179) 10) := (ra_in_g _ _ _)
          refine ra_iconst rfl ?_
          refine ra_iadd rfl ?_
          refine ra_putI rfl lk_8_114 (Nat.zero_le _) sh_179 rfl rfl ?_
          refine ra_newU (by first | omega | (unfold ra_in at *; omega)) (fun s56 hs56 hp57 hp57o => ?_)
          have hp57_99 := hp57o 99 (by decide)
          rw [ra_gk hk54] at hp57_99
          have hF58 := Fr_tr (lo := 179) (hi := 187) hF48 hs56 (by omega)
          have hk59 : s56 (180) = σ (180) := (hs56 (180) (by omega)).trans hk49
          have hk60 : s56 (181) = σ (181) := (hs56 (181) (by omega)).trans hk50
          have hk61 : s56 (182) = σ (182) := (hs56 (182) (by omega)).trans hk51
          have hk62 : s56 (183) = σ (183) := (hs56 (183) (by omega)).trans hk52
          have hk63 : s56 (184) = σ (184) := (hs56 (184) (by omega)).trans hk53
          refine ra_load rfl rfl rfl rfl ?_
          refine ra_ifeq rfl rfl (ra_in01 hz12) (fun h64 => ?_) (fun h64 => ?_)
          · refine ra_load rfl rfl rfl rfl ?_
            refine ra_store (L' := [_, _, _, _]) rfl rfl rfl (Nat.le_of_ble_eq_true rfl) rfl ?_
            refine ra_iinc (L' := [_, _, _, _]) rfl rfl (Nat.le_of_ble_eq_true rfl) rfl ?_
            refine ra_goto rfl rfl ?_
            exact ra_weak (by repeat' constructor) (ih z12 (v2 + 1) s56 hz12 (by first | omega | (unfold ra_in at *; omega)) (by first | omega | (unfold ra_in at *; omega)) hF58 hk59 hk60 hk61 hk62 hk63 (by exfalso; omega) (by exfalso; omega) (by first | omega | (unfold ra_in at *; omega)))
          · refine ra_load rfl rfl rfl rfl ?_
            refine ra_getR rfl lk_8_28 (Nat.zero_le _) sh_179 rfl ?_
            refine ra_load rfl rfl rfl rfl ?_
            refine ra_getI rfl lk_8_114 (Nat.zero_le _) sh_179 rfl ?_
            have hr65 : ra_in (ra_g s56 (179) 10) := (ra_in_g _ _ _)
            refine ra_iconst rfl ?_
            refine ra_isub rfl ?_
            refine ra_dup2 rfl rfl rfl ?_
            refine ra_iaload rfl sh_186 rfl (by decide) (by first | omega | (unfold ra_in at *; omega)) (by first | omega | (unfold ra_in at *; omega)) ?_
            have hr66 : ra_in (ra_g s56 (186) ((ra_g s56 (179) 10) - (1)).toNat) := (ra_in_g _ _ _)
            refine ra_iconst rfl ?_
            refine ra_iadd rfl ?_
            have hx : ra_g s56 (186) (ra_g s56 (179) 10 - 1).toNat = 0 := by rw [show (ra_g s56 (179) 10 - 1).toNat = (ra_g s (179) 10).toNat by omega, ra_gk (hs56 (186) (by omega))]; exact hs47v
            refine ra_iastore rfl sh_186 rfl (by decide) (by first | omega | (unfold ra_in at *; omega)) (by first | omega | (unfold ra_in at *; omega)) ?_
            refine ra_newR (by first | omega | (unfold ra_in at *; omega)) (fun s67 hs67 hs67v hs67o => ?_)
            have hF68 := Fr_tr (lo := 179) (hi := 187) hF58 hs67 (by omega)
            have hk69 : s67 (180) = σ (180) := (hs67 (180) (by omega)).trans hk59
            have hk70 : s67 (181) = σ (181) := (hs67 (181) (by omega)).trans hk60
            have hk71 : s67 (182) = σ (182) := (hs67 (182) (by omega)).trans hk61
            have hk72 : s67 (183) = σ (183) := (hs67 (183) (by omega)).trans hk62
            have hk73 : s67 (184) = σ (184) := (hs67 (184) (by omega)).trans hk63
            have hk74 : s67 (179) = s56 (179) := (hs67 (179) (by omega))
            refine ra_load rfl rfl rfl rfl ?_
            refine ra_store (L' := [_, _, _, _]) rfl rfl rfl (Nat.le_of_ble_eq_true rfl) rfl ?_
            refine ra_iinc (L' := [_, _, _, _]) rfl rfl (Nat.le_of_ble_eq_true rfl) rfl ?_
            refine ra_goto rfl rfl ?_
            exact ra_weak (by repeat' constructor) (ih z12 (v2 + 1) s67 hz12 (by first | omega | (unfold ra_in at *; omega)) (by first | omega | (unfold ra_in at *; omega)) hF68 hk69 hk70 hk71 hk72 hk73 (by have e : z12 = 1 := (by omega); rw [e]; exact gi_B (by obtain rfl : v1 = 0 := (by omega); exact hg) (by omega) (FRq_k hk0 (hz12o (by omega))) (by omega) hs38 hs38v hs38o hs47 hs47v hs47o hs56 hp57 hp57o hs67 hs67v hs67o) (by have e : z12 = 1 := (by omega); rw [e]; exact x5gjr_B (by obtain rfl : v1 = 0 := (by omega); exact hj) ((by have q9 := hz12q; rw [x5fre_k hk0] at q9; exact q9 : z12 = 1 ↔ x5FRE σ v2).mp (by omega)) hs38 hs38v hs38o hs47 hs47v hs47o hs56 hp57 hs67 hs67v hs67o) (by first | omega | (unfold ra_in at *; omega)))
theorem s5_218 {n : Nat} {f : Nat → Int32} {d : Nat}  {σ : ra_V} (hw : WF σ) : ra_C (g_Gs n f) g_sh 0 (d + 5) 218 [.index (179)] σ (fun r9 s => rV r9 ∧ Fr (179) (187) σ s ∧ s (180) = σ (180) ∧ s (181) = σ (181) ∧ s (182) = σ (182) ∧ s (183) = σ (183) ∧ s (184) = σ (184) ∧ (∀ a, a ≠ 10 → ra_g s 179 a = ra_g σ 179 a) ∧ GZ σ s ∧ x5GFR σ s) := by
  refine ra_enter (nn := 3) mt_218 rfl (Nat.le_of_ble_eq_true rfl) rfl (fun h => absurd h (by decide +kernel)) ?_
  have hw0 := WF_a hw
  unfold WFa at hw0
  refine ra_load rfl rfl rfl rfl ?_
  refine ra_iconst rfl ?_
  refine ra_putI rfl lk_8_114 (Nat.zero_le _) sh_179 rfl rfl ?_
  refine ra_newU (by first | omega | (unfold ra_in at *; omega)) (fun s1 hs1 hp2 hp2o => ?_)
  have hp2_99 := hp2o 99 (by decide)
  have hF3 := Fr_tr (lo := 179) (hi := 187) Fr_rf hs1 (by omega)
  have hk4 : s1 (180) = σ (180) := (hs1 (180) (by omega))
  have hk5 : s1 (181) = σ (181) := (hs1 (181) (by omega))
  have hk6 : s1 (182) = σ (182) := (hs1 (182) (by omega))
  have hk7 : s1 (183) = σ (183) := (hs1 (183) (by omega))
  have hk8 : s1 (184) = σ (184) := (hs1 (184) (by omega))
  refine ra_iconst rfl ?_
  refine ra_store (L' := [_, _, _, _]) rfl rfl rfl (Nat.le_of_ble_eq_true rfl) rfl ?_
  refine ra_iconst rfl ?_
  refine ra_store (L' := [_, _, _, _]) rfl rfl rfl (Nat.le_of_ble_eq_true rfl) rfl ?_
  exact ra_weak (by repeat' constructor) (l5_218_9 hw _ (0) (0) s1 (Or.inl rfl) (by first | omega | (unfold ra_in at *; omega)) (by first | omega | (unfold ra_in at *; omega)) hF3 hk4 hk5 hk6 hk7 hk8 (gi_0 hp2 hp2o) (show x5GJ σ (ra_g s1 179 10) _ _ 0 0 from by rw [show ra_g s1 179 10 = 0 from hp2]; exact x5gj_0 hw) (Nat.lt_succ_self _))
end
