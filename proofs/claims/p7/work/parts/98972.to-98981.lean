section
/-! T4: what the class's methods that read a text do (printed by wip/gen/c4.py) -/
section
variable {B : Nat → Int} {bn ps ta : Nat} {pk uv al : Int} {r : Nat → Int}
theorem l4_101_85 {n : Nat} {f : Nat → Int32} {d : Nat} {E0 : Nat} {σ : ra_V} (hE0 : isD E0) (hq : E0 = 14) (hB : x4TB σ B bn) (hN : x4NXC B bn σ ta) (hA : x4AR r σ E0) (hnw : ¬ tx_isw B bn ta ['p', 'a', 'r', 't'] = true ∧ ¬ tx_isw B bn ta ['l', 'o', 'c', 'k'] = true ∧ ¬ tx_isw B bn ta ['c', 'h', 'u', 'n', 'k'] = true) : ∀ (v2 : Int) (v3 : Int) (hv2 : v2 = 0 ∨ v2 = 1) (hv3 : v3 = 0 ∨ v3 = 1) (hw : x4LYW B bn ta v2 v3) (h5 : r 5 ≤ 0) (hnt : x4LNT r v2 v3), ra_P (g_Gs n f) g_sh 0 (d + 6) g_m_X6_layout 85 [some (.index (175)), some (.index (E0)), some (ra_I v2), some (ra_I v3)] [] σ (fun r9 s => (∃ z : Int, (z = 0 ∨ z = 1) ∧ (x4OC bn s E0 z (tx_stmt B bn r ta)) ∧ r9 = .inl (some (ra_I z))) ∧ Fr (14) (177) σ s ∧ s (40) = σ (40) ∧ s (176) = σ (176) ∧ ra_g s 175 1 = ra_g σ 175 1) := by
    intro v2 v3 hv2 hv3 hw h5 hnt
    have n2 := hN.2.1
    have n8 := hN.2.2.2.2.2.2.2.1
    have b1 := hB.1
    have b2 := hB.2.1
    refine ra_load rfl rfl rfl rfl ?_
    refine ra_ifne rfl rfl (ra_in01 hv2) (fun h12 => ?_) (fun h12 => ?_)
    · refine ra_load rfl rfl rfl rfl ?_
      refine ra_iconst rfl ?_
      refine ra_bipush rfl (by decide) ?_
      refine ra_cQPs (s4_106 (by first | omega | (unfold ra_in at *; omega)) (by first | omega | (unfold ra_in at *; omega)) hB (show ra_g σ 175 4 = ((tx_e B bn ta : Nat) : Int) from (by omega)) (by omega)) rfl (ct_106 rfl lk_6_54 (Or.inl rfl) sh_175 (Nat.le_of_ble_eq_true rfl)) (fun z14 s13 hz14 hz14p hs13 => ?_)
      obtain ⟨hf15, hc16, he17⟩ := hs13
      have hF18 := Fr_tr (lo := 14) (hi := 177) Fr_rf hf15 (by omega)
      have hk19 : s13 (40) = σ (40) := (hf15 (40) (by omega))
      have hk20 : s13 (176) = σ (176) := hc16
      have hk21 : s13 (E0) = σ (E0) := (hf15 (E0) (by omega))
      refine ra_ifne rfl rfl (ra_in01 hz14) (fun h22 => ?_) (fun h22 => ?_)
      · obtain ⟨-, v1_, e1, hr1, rfl, hp1, he1, hl1, hu1, hk1, hk1b, hn1⟩ := hz14p.resolve_right (fun q => by omega)
        refine ra_load rfl rfl rfl rfl ?_
        refine ra_ifeq rfl rfl (ra_in01 hv2) (fun h23 => ?_) (fun h23 => ?_)
        · refine ra_load rfl rfl rfl rfl ?_
          refine ra_ifeq rfl rfl (ra_in01 hv3) (fun h24 => ?_) (fun h24 => ?_)
          · refine ra_load rfl rfl rfl rfl ?_
            refine ra_iconst rfl ?_
            refine ra_putB rfl lk_6_35 (Nat.zero_le _) sh_175 rfl rfl (Or.inr rfl) ?_
            refine ra_newU (ra_in01 (Or.inr rfl)) (fun s25 hs25 hp26 hp26o => ?_)
            have hp26_1 := hp26o 1 (by decide)
            have hp26_2 := hp26o 2 (by decide)
            have hp26_3 := hp26o 3 (by decide)
            have hp26_4 := hp26o 4 (by decide)
            have hp26_5 := hp26o 5 (by decide)
            have hp26_6 := hp26o 6 (by decide)
            have hp26_7 := hp26o 7 (by decide)
            have hp26_8 := hp26o 8 (by decide)
            have hp26_9 := hp26o 9 (by decide)
            have hp26_11 := hp26o 11 (by decide)
            have hF27 := Fr_tr (lo := 14) (hi := 177) hF18 hs25 (by omega)
            have hk28 : s25 (40) = σ (40) := (hs25 (40) (by omega)).trans hk19
            have hk29 : s25 (176) = σ (176) := (hs25 (176) (by omega)).trans hk20
            have hk30 : s25 (E0) = σ (E0) := (hs25 (E0) (by omega)).trans hk21
            refine ra_load rfl rfl rfl rfl ?_
            refine ra_load rfl rfl rfl rfl ?_
            refine ra_getI rfl lk_6_58 (Nat.zero_le _) sh_175 rfl ?_
            have hr31 : ra_in (ra_g s25 (175) 7) := (ra_in_g _ _ _)
            refine ra_putI rfl lk_6_110 (Nat.zero_le _) (sh_D hE0) rfl rfl ?_
            refine ra_newU hr31 (fun s32 hs32 hp33 hp33o => ?_)
            have hp33_4 := hp33o 4 (by decide)
            rw [ra_gk hk30] at hp33_4
            have hp33_5 := hp33o 5 (by decide)
            rw [ra_gk hk30] at hp33_5
            have hp33_6 := hp33o 6 (by decide)
            rw [ra_gk hk30] at hp33_6
            have hp33_8 := hp33o 8 (by decide)
            rw [ra_gk hk30] at hp33_8
            have hF34 := Fr_tr (lo := 14) (hi := 177) hF27 hs32 (by omega)
            have hk35 : s32 (40) = σ (40) := (hs32 (40) (by omega)).trans hk28
            have hk36 : s32 (176) = σ (176) := (hs32 (176) (by omega)).trans hk29
            have hk37 : s32 (175) = s25 (175) := (hs32 (175) (by omega))
            refine ra_iconst rfl ?_
            exact ra_ireturn rfl (ra_okB (Or.inr rfl)) ⟨⟨_, (Or.inr rfl), (by exfalso; omega), rfl⟩, ⟨hF34, hk35, hk36, ((ra_gk (hs32 (175) (by omega))).trans (by omega))⟩⟩
          · refine ra_load rfl rfl rfl rfl ?_
            refine ra_iconst rfl ?_
            refine ra_putB rfl lk_6_32 (Nat.zero_le _) sh_175 rfl rfl (Or.inr rfl) ?_
            refine ra_newU (ra_in01 (Or.inr rfl)) (fun s38 hs38 hp39 hp39o => ?_)
            have hp39_1 := hp39o 1 (by decide)
            have hp39_2 := hp39o 2 (by decide)
            have hp39_3 := hp39o 3 (by decide)
            have hp39_4 := hp39o 4 (by decide)
            have hp39_5 := hp39o 5 (by decide)
            have hp39_6 := hp39o 6 (by decide)
            have hp39_7 := hp39o 7 (by decide)
            have hp39_8 := hp39o 8 (by decide)
            have hp39_10 := hp39o 10 (by decide)
            have hp39_11 := hp39o 11 (by decide)
            have hF40 := Fr_tr (lo := 14) (hi := 177) hF18 hs38 (by omega)
            have hk41 : s38 (40) = σ (40) := (hs38 (40) (by omega)).trans hk19
            have hk42 : s38 (176) = σ (176) := (hs38 (176) (by omega)).trans hk20
            have hk43 : s38 (E0) = σ (E0) := (hs38 (E0) (by omega)).trans hk21
            refine ra_load rfl rfl rfl rfl ?_
            refine ra_load rfl rfl rfl rfl ?_
            refine ra_getI rfl lk_6_58 (Nat.zero_le _) sh_175 rfl ?_
            have hr44 : ra_in (ra_g s38 (175) 7) := (ra_in_g _ _ _)
            refine ra_putI rfl lk_6_108 (Nat.zero_le _) (sh_D hE0) rfl rfl ?_
            refine ra_newU hr44 (fun s45 hs45 hp46 hp46o => ?_)
            have hp46_4 := hp46o 4 (by decide)
            rw [ra_gk hk43] at hp46_4
            have hp46_5 := hp46o 5 (by decide)
            rw [ra_gk hk43] at hp46_5
            have hp46_7 := hp46o 7 (by decide)
            rw [ra_gk hk43] at hp46_7
            have hp46_8 := hp46o 8 (by decide)
            rw [ra_gk hk43] at hp46_8
            have hF47 := Fr_tr (lo := 14) (hi := 177) hF40 hs45 (by omega)
            have hk48 : s45 (40) = σ (40) := (hs45 (40) (by omega)).trans hk41
            have hk49 : s45 (176) = σ (176) := (hs45 (176) (by omega)).trans hk42
            have hk50 : s45 (175) = s38 (175) := (hs45 (175) (by omega))
            refine ra_goto rfl rfl ?_
            refine ra_iconst rfl ?_
            exact ra_ireturn rfl (ra_okB (Or.inr rfl)) ⟨⟨_, (Or.inr rfl), (x4oc_y rfl (x4lay_y2 hw h5 hnt (by omega) (by omega) hr1) (x4AR_set (w := 2) (by omega) hA ⟨fun q => by omega, fun q => by omega⟩ (fun j j1 j2 j3 => ((hp46o j (by omega)).trans ((ra_gk (hs38 (E0) (by omega))).trans (ra_gk (hf15 (E0) (by omega)))))) (show ra_g s45 E0 6 = _ by omega) (show ra_g s45 175 9 = 1 from ((ra_gk (hs45 (175) (by omega))).trans (by omega))) (fun j j1 j2 j3 => ((ra_gk (hs45 (175) (by omega))).trans (by rcases (show j = 8 ∨ j = 9 ∨ j = 10 ∨ j = 11 by omega) with rfl | rfl | rfl | rfl <;> omega))) ⟨((ra_gk (hs45 (175) (by omega))).trans (by omega)), ((ra_gk (hs45 (175) (by omega))).trans (by omega))⟩ (fun p hp => ((hs45 (E0 + 5 + p) (by omega)).trans ((hs38 (E0 + 5 + p) (by omega)).trans (hf15 (E0 + 5 + p) (by omega)))))) ((ra_gk (hs45 (175) (by omega))).trans (by omega)) (by omega)), rfl⟩, ⟨hF47, hk48, hk49, ((ra_gk (hs45 (175) (by omega))).trans (by omega))⟩⟩
        · refine ra_load rfl rfl rfl rfl ?_
          refine ra_iconst rfl ?_
          refine ra_putB rfl lk_6_28 (Nat.zero_le _) sh_175 rfl rfl (Or.inr rfl) ?_
          refine ra_newU (ra_in01 (Or.inr rfl)) (fun s51 hs51 hp52 hp52o => ?_)
          have hp52_1 := hp52o 1 (by decide)
          have hp52_2 := hp52o 2 (by decide)
          have hp52_3 := hp52o 3 (by decide)
          have hp52_4 := hp52o 4 (by decide)
          have hp52_5 := hp52o 5 (by decide)
          have hp52_6 := hp52o 6 (by decide)
          have hp52_7 := hp52o 7 (by decide)
          have hp52_9 := hp52o 9 (by decide)
          have hp52_10 := hp52o 10 (by decide)
          have hp52_11 := hp52o 11 (by decide)
          have hF53 := Fr_tr (lo := 14) (hi := 177) hF18 hs51 (by omega)
          have hk54 : s51 (40) = σ (40) := (hs51 (40) (by omega)).trans hk19
          have hk55 : s51 (176) = σ (176) := (hs51 (176) (by omega)).trans hk20
          have hk56 : s51 (E0) = σ (E0) := (hs51 (E0) (by omega)).trans hk21
          refine ra_load rfl rfl rfl rfl ?_
          refine ra_load rfl rfl rfl rfl ?_
          refine ra_getI rfl lk_6_58 (Nat.zero_le _) sh_175 rfl ?_
          have hr57 : ra_in (ra_g s51 (175) 7) := (ra_in_g _ _ _)
          refine ra_putI rfl lk_6_106 (Nat.zero_le _) (sh_D hE0) rfl rfl ?_
          refine ra_newU hr57 (fun s58 hs58 hp59 hp59o => ?_)
          have hp59_4 := hp59o 4 (by decide)
          rw [ra_gk hk56] at hp59_4
          have hp59_6 := hp59o 6 (by decide)
          rw [ra_gk hk56] at hp59_6
          have hp59_7 := hp59o 7 (by decide)
          rw [ra_gk hk56] at hp59_7
          have hp59_8 := hp59o 8 (by decide)
          rw [ra_gk hk56] at hp59_8
          have hF60 := Fr_tr (lo := 14) (hi := 177) hF53 hs58 (by omega)
          have hk61 : s58 (40) = σ (40) := (hs58 (40) (by omega)).trans hk54
          have hk62 : s58 (176) = σ (176) := (hs58 (176) (by omega)).trans hk55
          have hk63 : s58 (175) = s51 (175) := (hs58 (175) (by omega))
          refine ra_goto rfl rfl ?_
          refine ra_iconst rfl ?_
          exact ra_ireturn rfl (ra_okB (Or.inr rfl)) ⟨⟨_, (Or.inr rfl), (x4oc_y rfl (x4lay_y1 hw h5 hnt (by omega) hr1) (x4AR_set (w := 1) (by omega) hA ⟨fun q => by omega, fun q => by omega⟩ (fun j j1 j2 j3 => ((hp59o j (by omega)).trans ((ra_gk (hs51 (E0) (by omega))).trans (ra_gk (hf15 (E0) (by omega)))))) (show ra_g s58 E0 5 = _ by omega) (show ra_g s58 175 8 = 1 from ((ra_gk (hs58 (175) (by omega))).trans (by omega))) (fun j j1 j2 j3 => ((ra_gk (hs58 (175) (by omega))).trans (by rcases (show j = 8 ∨ j = 9 ∨ j = 10 ∨ j = 11 by omega) with rfl | rfl | rfl | rfl <;> omega))) ⟨((ra_gk (hs58 (175) (by omega))).trans (by omega)), ((ra_gk (hs58 (175) (by omega))).trans (by omega))⟩ (fun p hp => ((hs58 (E0 + 5 + p) (by omega)).trans ((hs51 (E0 + 5 + p) (by omega)).trans (hf15 (E0 + 5 + p) (by omega)))))) ((ra_gk (hs58 (175) (by omega))).trans (by omega)) (by omega)), rfl⟩, ⟨hF60, hk61, hk62, ((ra_gk (hs58 (175) (by omega))).trans (by omega))⟩⟩
      · refine ra_goto rfl rfl ?_
        refine ra_iconst rfl ?_
        exact ra_ireturn rfl (ra_okB (Or.inl rfl)) ⟨⟨_, (Or.inl rfl), (x4oc_rd hz14p (by omega) rfl (fun x hx => x4lay_n1 hw h5 hnt (by omega) hx)), rfl⟩, ⟨hF18, hk19, hk20, (by omega)⟩⟩
    · refine ra_load rfl rfl rfl rfl ?_
      refine ra_ifeq rfl rfl (ra_in01 hv3) (fun h64 => ?_) (fun h64 => ?_)
      · refine ra_load rfl rfl rfl rfl ?_
        refine ra_iconst rfl ?_
        refine ra_bipush rfl (by decide) ?_
        refine ra_cQPs (s4_106 (by first | omega | (unfold ra_in at *; omega)) (by first | omega | (unfold ra_in at *; omega)) hB (show ra_g σ 175 4 = ((tx_e B bn ta : Nat) : Int) from (by omega)) (by omega)) rfl (ct_106 rfl lk_6_54 (Or.inl rfl) sh_175 (Nat.le_of_ble_eq_true rfl)) (fun z66 s65 hz66 hz66p hs65 => ?_)
        obtain ⟨hf67, hc68, he69⟩ := hs65
        have hF70 := Fr_tr (lo := 14) (hi := 177) Fr_rf hf67 (by omega)
        have hk71 : s65 (40) = σ (40) := (hf67 (40) (by omega))
        have hk72 : s65 (176) = σ (176) := hc68
        have hk73 : s65 (E0) = σ (E0) := (hf67 (E0) (by omega))
        refine ra_ifne rfl rfl (ra_in01 hz66) (fun h74 => ?_) (fun h74 => ?_)
        · obtain ⟨-, v1_, e1, hr1, rfl, hp1, he1, hl1, hu1, hk1, hk1b, hn1⟩ := hz66p.resolve_right (fun q => by omega)
          refine ra_load rfl rfl rfl rfl ?_
          refine ra_ifeq rfl rfl (ra_in01 hv2) (fun h75 => ?_) (fun h75 => ?_)
          · refine ra_load rfl rfl rfl rfl ?_
            refine ra_ifeq rfl rfl (ra_in01 hv3) (fun h76 => ?_) (fun h76 => ?_)
            · refine ra_load rfl rfl rfl rfl ?_
              refine ra_iconst rfl ?_
              refine ra_putB rfl lk_6_35 (Nat.zero_le _) sh_175 rfl rfl (Or.inr rfl) ?_
              refine ra_newU (ra_in01 (Or.inr rfl)) (fun s77 hs77 hp78 hp78o => ?_)
              have hp78_1 := hp78o 1 (by decide)
              have hp78_2 := hp78o 2 (by decide)
              have hp78_3 := hp78o 3 (by decide)
              have hp78_4 := hp78o 4 (by decide)
              have hp78_5 := hp78o 5 (by decide)
              have hp78_6 := hp78o 6 (by decide)
              have hp78_7 := hp78o 7 (by decide)
              have hp78_8 := hp78o 8 (by decide)
              have hp78_9 := hp78o 9 (by decide)
              have hp78_11 := hp78o 11 (by decide)
              have hF79 := Fr_tr (lo := 14) (hi := 177) hF70 hs77 (by omega)
              have hk80 : s77 (40) = σ (40) := (hs77 (40) (by omega)).trans hk71
              have hk81 : s77 (176) = σ (176) := (hs77 (176) (by omega)).trans hk72
              have hk82 : s77 (E0) = σ (E0) := (hs77 (E0) (by omega)).trans hk73
              refine ra_load rfl rfl rfl rfl ?_
              refine ra_load rfl rfl rfl rfl ?_
              refine ra_getI rfl lk_6_58 (Nat.zero_le _) sh_175 rfl ?_
              have hr83 : ra_in (ra_g s77 (175) 7) := (ra_in_g _ _ _)
              refine ra_putI rfl lk_6_110 (Nat.zero_le _) (sh_D hE0) rfl rfl ?_
              refine ra_newU hr83 (fun s84 hs84 hp85 hp85o => ?_)
              have hp85_4 := hp85o 4 (by decide)
              rw [ra_gk hk82] at hp85_4
              have hp85_5 := hp85o 5 (by decide)
              rw [ra_gk hk82] at hp85_5
              have hp85_6 := hp85o 6 (by decide)
              rw [ra_gk hk82] at hp85_6
              have hp85_8 := hp85o 8 (by decide)
              rw [ra_gk hk82] at hp85_8
              have hF86 := Fr_tr (lo := 14) (hi := 177) hF79 hs84 (by omega)
              have hk87 : s84 (40) = σ (40) := (hs84 (40) (by omega)).trans hk80
              have hk88 : s84 (176) = σ (176) := (hs84 (176) (by omega)).trans hk81
              have hk89 : s84 (175) = s77 (175) := (hs84 (175) (by omega))
              refine ra_iconst rfl ?_
              exact ra_ireturn rfl (ra_okB (Or.inr rfl)) ⟨⟨_, (Or.inr rfl), (x4oc_y rfl (x4lay_y3 hw h5 hnt (by omega) (by omega) hr1) (x4AR_set (w := 3) (by omega) hA ⟨fun q => by omega, fun q => by omega⟩ (fun j j1 j2 j3 => ((hp85o j (by omega)).trans ((ra_gk (hs77 (E0) (by omega))).trans (ra_gk (hf67 (E0) (by omega)))))) (show ra_g s84 E0 7 = _ by omega) (show ra_g s84 175 10 = 1 from ((ra_gk (hs84 (175) (by omega))).trans (by omega))) (fun j j1 j2 j3 => ((ra_gk (hs84 (175) (by omega))).trans (by rcases (show j = 8 ∨ j = 9 ∨ j = 10 ∨ j = 11 by omega) with rfl | rfl | rfl | rfl <;> omega))) ⟨((ra_gk (hs84 (175) (by omega))).trans (by omega)), ((ra_gk (hs84 (175) (by omega))).trans (by omega))⟩ (fun p hp => ((hs84 (E0 + 5 + p) (by omega)).trans ((hs77 (E0 + 5 + p) (by omega)).trans (hf67 (E0 + 5 + p) (by omega)))))) ((ra_gk (hs84 (175) (by omega))).trans (by omega)) (by omega)), rfl⟩, ⟨hF86, hk87, hk88, ((ra_gk (hs84 (175) (by omega))).trans (by omega))⟩⟩
            · refine ra_load rfl rfl rfl rfl ?_
              refine ra_iconst rfl ?_
              refine ra_putB rfl lk_6_32 (Nat.zero_le _) sh_175 rfl rfl (Or.inr rfl) ?_
              refine ra_newU (ra_in01 (Or.inr rfl)) (fun s90 hs90 hp91 hp91o => ?_)
              have hp91_1 := hp91o 1 (by decide)
              have hp91_2 := hp91o 2 (by decide)
              have hp91_3 := hp91o 3 (by decide)
              have hp91_4 := hp91o 4 (by decide)
              have hp91_5 := hp91o 5 (by decide)
              have hp91_6 := hp91o 6 (by decide)
              have hp91_7 := hp91o 7 (by decide)
              have hp91_8 := hp91o 8 (by decide)
              have hp91_10 := hp91o 10 (by decide)
              have hp91_11 := hp91o 11 (by decide)
              have hF92 := Fr_tr (lo := 14) (hi := 177) hF70 hs90 (by omega)
              have hk93 : s90 (40) = σ (40) := (hs90 (40) (by omega)).trans hk71
              have hk94 : s90 (176) = σ (176) := (hs90 (176) (by omega)).trans hk72
              have hk95 : s90 (E0) = σ (E0) := (hs90 (E0) (by omega)).trans hk73
              refine ra_load rfl rfl rfl rfl ?_
              refine ra_load rfl rfl rfl rfl ?_
              refine ra_getI rfl lk_6_58 (Nat.zero_le _) sh_175 rfl ?_
              have hr96 : ra_in (ra_g s90 (175) 7) := (ra_in_g _ _ _)
              refine ra_putI rfl lk_6_108 (Nat.zero_le _) (sh_D hE0) rfl rfl ?_
              refine ra_newU hr96 (fun s97 hs97 hp98 hp98o => ?_)
              have hp98_4 := hp98o 4 (by decide)
              rw [ra_gk hk95] at hp98_4
              have hp98_5 := hp98o 5 (by decide)
              rw [ra_gk hk95] at hp98_5
              have hp98_7 := hp98o 7 (by decide)
              rw [ra_gk hk95] at hp98_7
              have hp98_8 := hp98o 8 (by decide)
              rw [ra_gk hk95] at hp98_8
              have hF99 := Fr_tr (lo := 14) (hi := 177) hF92 hs97 (by omega)
              have hk100 : s97 (40) = σ (40) := (hs97 (40) (by omega)).trans hk93
              have hk101 : s97 (176) = σ (176) := (hs97 (176) (by omega)).trans hk94
              have hk102 : s97 (175) = s90 (175) := (hs97 (175) (by omega))
              refine ra_goto rfl rfl ?_
              refine ra_iconst rfl ?_
              exact ra_ireturn rfl (ra_okB (Or.inr rfl)) ⟨⟨_, (Or.inr rfl), (by exfalso; omega), rfl⟩, ⟨hF99, hk100, hk101, ((ra_gk (hs97 (175) (by omega))).trans (by omega))⟩⟩
          · refine ra_load rfl rfl rfl rfl ?_
            refine ra_iconst rfl ?_
            refine ra_putB rfl lk_6_28 (Nat.zero_le _) sh_175 rfl rfl (Or.inr rfl) ?_
            refine ra_newU (ra_in01 (Or.inr rfl)) (fun s103 hs103 hp104 hp104o => ?_)
            have hp104_1 := hp104o 1 (by decide)
            have hp104_2 := hp104o 2 (by decide)
            have hp104_3 := hp104o 3 (by decide)
            have hp104_4 := hp104o 4 (by decide)
            have hp104_5 := hp104o 5 (by decide)
            have hp104_6 := hp104o 6 (by decide)
            have hp104_7 := hp104o 7 (by decide)
            have hp104_9 := hp104o 9 (by decide)
            have hp104_10 := hp104o 10 (by decide)
            have hp104_11 := hp104o 11 (by decide)
            have hF105 := Fr_tr (lo := 14) (hi := 177) hF70 hs103 (by omega)
            have hk106 : s103 (40) = σ (40) := (hs103 (40) (by omega)).trans hk71
            have hk107 : s103 (176) = σ (176) := (hs103 (176) (by omega)).trans hk72
            have hk108 : s103 (E0) = σ (E0) := (hs103 (E0) (by omega)).trans hk73
            refine ra_load rfl rfl rfl rfl ?_
            refine ra_load rfl rfl rfl rfl ?_
            refine ra_getI rfl lk_6_58 (Nat.zero_le _) sh_175 rfl ?_
            have hr109 : ra_in (ra_g s103 (175) 7) := (ra_in_g _ _ _)
            refine ra_putI rfl lk_6_106 (Nat.zero_le _) (sh_D hE0) rfl rfl ?_
            refine ra_newU hr109 (fun s110 hs110 hp111 hp111o => ?_)
            have hp111_4 := hp111o 4 (by decide)
            rw [ra_gk hk108] at hp111_4
            have hp111_6 := hp111o 6 (by decide)
            rw [ra_gk hk108] at hp111_6
            have hp111_7 := hp111o 7 (by decide)
            rw [ra_gk hk108] at hp111_7
            have hp111_8 := hp111o 8 (by decide)
            rw [ra_gk hk108] at hp111_8
            have hF112 := Fr_tr (lo := 14) (hi := 177) hF105 hs110 (by omega)
            have hk113 : s110 (40) = σ (40) := (hs110 (40) (by omega)).trans hk106
            have hk114 : s110 (176) = σ (176) := (hs110 (176) (by omega)).trans hk107
            have hk115 : s110 (175) = s103 (175) := (hs110 (175) (by omega))
            refine ra_goto rfl rfl ?_
            refine ra_iconst rfl ?_
            exact ra_ireturn rfl (ra_okB (Or.inr rfl)) ⟨⟨_, (Or.inr rfl), (by exfalso; omega), rfl⟩, ⟨hF112, hk113, hk114, ((ra_gk (hs110 (175) (by omega))).trans (by omega))⟩⟩
        · refine ra_iconst rfl ?_
          exact ra_ireturn rfl (ra_okB (Or.inl rfl)) ⟨⟨_, (Or.inl rfl), (x4oc_rd hz66p (by omega) rfl (fun x hx => x4lay_n2 hw h5 hnt (by omega) (by omega) hx)), rfl⟩, ⟨hF70, hk71, hk72, (by omega)⟩⟩
      · refine ra_load rfl rfl rfl rfl ?_
        refine ra_iconst rfl ?_
        refine ra_bipush rfl (by decide) ?_
        refine ra_cQPs (s4_106 (by first | omega | (unfold ra_in at *; omega)) (by first | omega | (unfold ra_in at *; omega)) hB (show ra_g σ 175 4 = ((tx_e B bn ta : Nat) : Int) from (by omega)) (by omega)) rfl (ct_106 rfl lk_6_54 (Or.inl rfl) sh_175 (Nat.le_of_ble_eq_true rfl)) (fun z117 s116 hz117 hz117p hs116 => ?_)
        obtain ⟨hf118, hc119, he120⟩ := hs116
        have hF121 := Fr_tr (lo := 14) (hi := 177) Fr_rf hf118 (by omega)
        have hk122 : s116 (40) = σ (40) := (hf118 (40) (by omega))
        have hk123 : s116 (176) = σ (176) := hc119
        have hk124 : s116 (E0) = σ (E0) := (hf118 (E0) (by omega))
        refine ra_ifne rfl rfl (ra_in01 hz117) (fun h125 => ?_) (fun h125 => ?_)
        · obtain ⟨-, v1_, e1, hr1, rfl, hp1, he1, hl1, hu1, hk1, hk1b, hn1⟩ := hz117p.resolve_right (fun q => by omega)
          refine ra_load rfl rfl rfl rfl ?_
          refine ra_ifeq rfl rfl (ra_in01 hv2) (fun h126 => ?_) (fun h126 => ?_)
          · refine ra_load rfl rfl rfl rfl ?_
            refine ra_ifeq rfl rfl (ra_in01 hv3) (fun h127 => ?_) (fun h127 => ?_)
            · refine ra_load rfl rfl rfl rfl ?_
              refine ra_iconst rfl ?_
              refine ra_putB rfl lk_6_35 (Nat.zero_le _) sh_175 rfl rfl (Or.inr rfl) ?_
              refine ra_newU (ra_in01 (Or.inr rfl)) (fun s128 hs128 hp129 hp129o => ?_)
              have hp129_1 := hp129o 1 (by decide)
              have hp129_2 := hp129o 2 (by decide)
              have hp129_3 := hp129o 3 (by decide)
              have hp129_4 := hp129o 4 (by decide)
              have hp129_5 := hp129o 5 (by decide)
              have hp129_6 := hp129o 6 (by decide)
              have hp129_7 := hp129o 7 (by decide)
              have hp129_8 := hp129o 8 (by decide)
              have hp129_9 := hp129o 9 (by decide)
              have hp129_11 := hp129o 11 (by decide)
              have hF130 := Fr_tr (lo := 14) (hi := 177) hF121 hs128 (by omega)
              have hk131 : s128 (40) = σ (40) := (hs128 (40) (by omega)).trans hk122
              have hk132 : s128 (176) = σ (176) := (hs128 (176) (by omega)).trans hk123
              have hk133 : s128 (E0) = σ (E0) := (hs128 (E0) (by omega)).trans hk124
              refine ra_load rfl rfl rfl rfl ?_
              refine ra_load rfl rfl rfl rfl ?_
              refine ra_getI rfl lk_6_58 (Nat.zero_le _) sh_175 rfl ?_
              have hr134 : ra_in (ra_g s128 (175) 7) := (ra_in_g _ _ _)
              refine ra_putI rfl lk_6_110 (Nat.zero_le _) (sh_D hE0) rfl rfl ?_
              refine ra_newU hr134 (fun s135 hs135 hp136 hp136o => ?_)
              have hp136_4 := hp136o 4 (by decide)
              rw [ra_gk hk133] at hp136_4
              have hp136_5 := hp136o 5 (by decide)
              rw [ra_gk hk133] at hp136_5
              have hp136_6 := hp136o 6 (by decide)
              rw [ra_gk hk133] at hp136_6
              have hp136_8 := hp136o 8 (by decide)
              rw [ra_gk hk133] at hp136_8
              have hF137 := Fr_tr (lo := 14) (hi := 177) hF130 hs135 (by omega)
              have hk138 : s135 (40) = σ (40) := (hs135 (40) (by omega)).trans hk131
              have hk139 : s135 (176) = σ (176) := (hs135 (176) (by omega)).trans hk132
              have hk140 : s135 (175) = s128 (175) := (hs135 (175) (by omega))
              refine ra_iconst rfl ?_
              exact ra_ireturn rfl (ra_okB (Or.inr rfl)) ⟨⟨_, (Or.inr rfl), (by exfalso; omega), rfl⟩, ⟨hF137, hk138, hk139, ((ra_gk (hs135 (175) (by omega))).trans (by omega))⟩⟩
            · refine ra_load rfl rfl rfl rfl ?_
              refine ra_iconst rfl ?_
              refine ra_putB rfl lk_6_32 (Nat.zero_le _) sh_175 rfl rfl (Or.inr rfl) ?_
              refine ra_newU (ra_in01 (Or.inr rfl)) (fun s141 hs141 hp142 hp142o => ?_)
              have hp142_1 := hp142o 1 (by decide)
              have hp142_2 := hp142o 2 (by decide)
              have hp142_3 := hp142o 3 (by decide)
              have hp142_4 := hp142o 4 (by decide)
              have hp142_5 := hp142o 5 (by decide)
              have hp142_6 := hp142o 6 (by decide)
              have hp142_7 := hp142o 7 (by decide)
              have hp142_8 := hp142o 8 (by decide)
              have hp142_10 := hp142o 10 (by decide)
              have hp142_11 := hp142o 11 (by decide)
              have hF143 := Fr_tr (lo := 14) (hi := 177) hF121 hs141 (by omega)
              have hk144 : s141 (40) = σ (40) := (hs141 (40) (by omega)).trans hk122
              have hk145 : s141 (176) = σ (176) := (hs141 (176) (by omega)).trans hk123
              have hk146 : s141 (E0) = σ (E0) := (hs141 (E0) (by omega)).trans hk124
              refine ra_load rfl rfl rfl rfl ?_
              refine ra_load rfl rfl rfl rfl ?_
              refine ra_getI rfl lk_6_58 (Nat.zero_le _) sh_175 rfl ?_
              have hr147 : ra_in (ra_g s141 (175) 7) := (ra_in_g _ _ _)
              refine ra_putI rfl lk_6_108 (Nat.zero_le _) (sh_D hE0) rfl rfl ?_
              refine ra_newU hr147 (fun s148 hs148 hp149 hp149o => ?_)
              have hp149_4 := hp149o 4 (by decide)
              rw [ra_gk hk146] at hp149_4
              have hp149_5 := hp149o 5 (by decide)
              rw [ra_gk hk146] at hp149_5
              have hp149_7 := hp149o 7 (by decide)
              rw [ra_gk hk146] at hp149_7
              have hp149_8 := hp149o 8 (by decide)
              rw [ra_gk hk146] at hp149_8
              have hF150 := Fr_tr (lo := 14) (hi := 177) hF143 hs148 (by omega)
              have hk151 : s148 (40) = σ (40) := (hs148 (40) (by omega)).trans hk144
              have hk152 : s148 (176) = σ (176) := (hs148 (176) (by omega)).trans hk145
              have hk153 : s148 (175) = s141 (175) := (hs148 (175) (by omega))
              refine ra_goto rfl rfl ?_
              refine ra_iconst rfl ?_
              exact ra_ireturn rfl (ra_okB (Or.inr rfl)) ⟨⟨_, (Or.inr rfl), (x4oc_y rfl (x4lay_y2 hw h5 hnt (by omega) (by omega) hr1) (x4AR_set (w := 2) (by omega) hA ⟨fun q => by omega, fun q => by omega⟩ (fun j j1 j2 j3 => ((hp149o j (by omega)).trans ((ra_gk (hs141 (E0) (by omega))).trans (ra_gk (hf118 (E0) (by omega)))))) (show ra_g s148 E0 6 = _ by omega) (show ra_g s148 175 9 = 1 from ((ra_gk (hs148 (175) (by omega))).trans (by omega))) (fun j j1 j2 j3 => ((ra_gk (hs148 (175) (by omega))).trans (by rcases (show j = 8 ∨ j = 9 ∨ j = 10 ∨ j = 11 by omega) with rfl | rfl | rfl | rfl <;> omega))) ⟨((ra_gk (hs148 (175) (by omega))).trans (by omega)), ((ra_gk (hs148 (175) (by omega))).trans (by omega))⟩ (fun p hp => ((hs148 (E0 + 5 + p) (by omega)).trans ((hs141 (E0 + 5 + p) (by omega)).trans (hf118 (E0 + 5 + p) (by omega)))))) ((ra_gk (hs148 (175) (by omega))).trans (by omega)) (by omega)), rfl⟩, ⟨hF150, hk151, hk152, ((ra_gk (hs148 (175) (by omega))).trans (by omega))⟩⟩
          · refine ra_load rfl rfl rfl rfl ?_
            refine ra_iconst rfl ?_
            refine ra_putB rfl lk_6_28 (Nat.zero_le _) sh_175 rfl rfl (Or.inr rfl) ?_
            refine ra_newU (ra_in01 (Or.inr rfl)) (fun s154 hs154 hp155 hp155o => ?_)
            have hp155_1 := hp155o 1 (by decide)
            have hp155_2 := hp155o 2 (by decide)
            have hp155_3 := hp155o 3 (by decide)
            have hp155_4 := hp155o 4 (by decide)
            have hp155_5 := hp155o 5 (by decide)
            have hp155_6 := hp155o 6 (by decide)
            have hp155_7 := hp155o 7 (by decide)
            have hp155_9 := hp155o 9 (by decide)
            have hp155_10 := hp155o 10 (by decide)
            have hp155_11 := hp155o 11 (by decide)
            have hF156 := Fr_tr (lo := 14) (hi := 177) hF121 hs154 (by omega)
            have hk157 : s154 (40) = σ (40) := (hs154 (40) (by omega)).trans hk122
            have hk158 : s154 (176) = σ (176) := (hs154 (176) (by omega)).trans hk123
            have hk159 : s154 (E0) = σ (E0) := (hs154 (E0) (by omega)).trans hk124
            refine ra_load rfl rfl rfl rfl ?_
            refine ra_load rfl rfl rfl rfl ?_
            refine ra_getI rfl lk_6_58 (Nat.zero_le _) sh_175 rfl ?_
            have hr160 : ra_in (ra_g s154 (175) 7) := (ra_in_g _ _ _)
            refine ra_putI rfl lk_6_106 (Nat.zero_le _) (sh_D hE0) rfl rfl ?_
            refine ra_newU hr160 (fun s161 hs161 hp162 hp162o => ?_)
            have hp162_4 := hp162o 4 (by decide)
            rw [ra_gk hk159] at hp162_4
            have hp162_6 := hp162o 6 (by decide)
            rw [ra_gk hk159] at hp162_6
            have hp162_7 := hp162o 7 (by decide)
            rw [ra_gk hk159] at hp162_7
            have hp162_8 := hp162o 8 (by decide)
            rw [ra_gk hk159] at hp162_8
            have hF163 := Fr_tr (lo := 14) (hi := 177) hF156 hs161 (by omega)
            have hk164 : s161 (40) = σ (40) := (hs161 (40) (by omega)).trans hk157
            have hk165 : s161 (176) = σ (176) := (hs161 (176) (by omega)).trans hk158
            have hk166 : s161 (175) = s154 (175) := (hs161 (175) (by omega))
            refine ra_goto rfl rfl ?_
            refine ra_iconst rfl ?_
            exact ra_ireturn rfl (ra_okB (Or.inr rfl)) ⟨⟨_, (Or.inr rfl), (x4oc_y rfl (x4lay_y1 hw h5 hnt (by omega) hr1) (x4AR_set (w := 1) (by omega) hA ⟨fun q => by omega, fun q => by omega⟩ (fun j j1 j2 j3 => ((hp162o j (by omega)).trans ((ra_gk (hs154 (E0) (by omega))).trans (ra_gk (hf118 (E0) (by omega)))))) (show ra_g s161 E0 5 = _ by omega) (show ra_g s161 175 8 = 1 from ((ra_gk (hs161 (175) (by omega))).trans (by omega))) (fun j j1 j2 j3 => ((ra_gk (hs161 (175) (by omega))).trans (by rcases (show j = 8 ∨ j = 9 ∨ j = 10 ∨ j = 11 by omega) with rfl | rfl | rfl | rfl <;> omega))) ⟨((ra_gk (hs161 (175) (by omega))).trans (by omega)), ((ra_gk (hs161 (175) (by omega))).trans (by omega))⟩ (fun p hp => ((hs161 (E0 + 5 + p) (by omega)).trans ((hs154 (E0 + 5 + p) (by omega)).trans (hf118 (E0 + 5 + p) (by omega)))))) ((ra_gk (hs161 (175) (by omega))).trans (by omega)) (by omega)), rfl⟩, ⟨hF163, hk164, hk165, ((ra_gk (hs161 (175) (by omega))).trans (by omega))⟩⟩
        · refine ra_goto rfl rfl ?_
          refine ra_iconst rfl ?_
          exact ra_ireturn rfl (ra_okB (Or.inl rfl)) ⟨⟨_, (Or.inl rfl), (x4oc_rd hz117p (by omega) rfl (fun x hx => x4lay_n1 hw h5 hnt (by omega) hx)), rfl⟩, ⟨hF121, hk122, hk123, (by omega)⟩⟩
theorem l4_101_44 {n : Nat} {f : Nat → Int32} {d : Nat} {E0 : Nat} {σ : ra_V} (hE0 : isD E0) (hq : E0 = 14) (hB : x4TB σ B bn) (hN : x4NXC B bn σ ta) (hA : x4AR r σ E0) (hnw : ¬ tx_isw B bn ta ['p', 'a', 'r', 't'] = true ∧ ¬ tx_isw B bn ta ['l', 'o', 'c', 'k'] = true ∧ ¬ tx_isw B bn ta ['c', 'h', 'u', 'n', 'k'] = true) : ∀ (v2 : Int) (v3 : Int) (hv2 : v2 = 0 ∨ v2 = 1) (hv3 : v3 = 0 ∨ v3 = 1) (hw : x4LYW B bn ta v2 v3) (h5 : r 5 ≤ 0), ra_P (g_Gs n f) g_sh 0 (d + 6) g_m_X6_layout 44 [some (.index (175)), some (.index (E0)), some (ra_I v2), some (ra_I v3)] [] σ (fun r9 s => (∃ z : Int, (z = 0 ∨ z = 1) ∧ (x4OC bn s E0 z (tx_stmt B bn r ta)) ∧ r9 = .inl (some (ra_I z))) ∧ Fr (14) (177) σ s ∧ s (40) = σ (40) ∧ s (176) = σ (176) ∧ ra_g s 175 1 = ra_g σ 175 1) := by
    intro v2 v3 hv2 hv3 hw h5
    have n1 := hN.1
    have hA0 := hA
    obtain ⟨-, -, a3, a4, -, -, -⟩ := hA0
    refine ra_load rfl rfl rfl rfl ?_
    refine ra_ifeq rfl rfl (ra_in01 hv2) (fun h9 => ?_) (fun h9 => ?_)
    · refine ra_load rfl rfl rfl rfl ?_
      refine ra_ifeq rfl rfl (ra_in01 hv3) (fun h10 => ?_) (fun h10 => ?_)
      · refine ra_load rfl rfl rfl rfl ?_
        refine ra_getB rfl lk_6_35 (Nat.zero_le _) sh_175 rfl ?_
        refine ra_ifeqB rfl rfl (fun h11 => ?_) (fun h11 => ?_)
        · exact ra_weak (by repeat' constructor) (l4_101_85 hE0 hq hB hN hA hnw v2 v3 hv2 hv3 hw h5 (show (v2 = 1 → r 101 ≠ 1) ∧ (v2 = 0 → v3 = 1 → r 102 ≠ 1) ∧ (v2 = 0 → v3 = 0 → r 103 ≠ 1) by omega))
        · refine ra_load rfl rfl rfl rfl ?_
          refine ra_iconst rfl ?_
          refine ra_cQP (s4_107 (by first | omega | (unfold ra_in at *; omega))) rfl (ct_107 rfl lk_6_50 (Or.inl rfl) sh_175 (Nat.le_of_ble_eq_true rfl)) (fun z168 s167 hz168 hz168p hs167 => ?_)
          obtain ⟨hf169, hc170, he171⟩ := hs167
          have hF172 := Fr_tr (lo := 14) (hi := 177) Fr_rf hf169 (by omega)
          have hk173 : s167 (40) = σ (40) := (hf169 (40) (by omega))
          have hk174 : s167 (176) = σ (176) := hc170
          have hk175 : s167 (E0) = σ (E0) := (hf169 (E0) (by omega))
          exact ra_ireturn rfl (ra_okB hz168) ⟨⟨_, hz168, (x4oc_f (c := 3) (a := ta) hz168p (x4lay_3 hw h5 (by omega)) (by omega) (by omega)), rfl⟩, ⟨hF172, hk173, hk174, (by omega)⟩⟩
      · refine ra_load rfl rfl rfl rfl ?_
        refine ra_getB rfl lk_6_32 (Nat.zero_le _) sh_175 rfl ?_
        refine ra_ifeqB rfl rfl (fun h176 => ?_) (fun h176 => ?_)
        · exact ra_weak (by repeat' constructor) (l4_101_85 hE0 hq hB hN hA hnw v2 v3 hv2 hv3 hw h5 (show (v2 = 1 → r 101 ≠ 1) ∧ (v2 = 0 → v3 = 1 → r 102 ≠ 1) ∧ (v2 = 0 → v3 = 0 → r 103 ≠ 1) by omega))
        · refine ra_goto rfl rfl ?_
          refine ra_load rfl rfl rfl rfl ?_
          refine ra_iconst rfl ?_
          refine ra_cQP (s4_107 (by first | omega | (unfold ra_in at *; omega))) rfl (ct_107 rfl lk_6_50 (Or.inl rfl) sh_175 (Nat.le_of_ble_eq_true rfl)) (fun z178 s177 hz178 hz178p hs177 => ?_)
          obtain ⟨hf179, hc180, he181⟩ := hs177
          have hF182 := Fr_tr (lo := 14) (hi := 177) Fr_rf hf179 (by omega)
          have hk183 : s177 (40) = σ (40) := (hf179 (40) (by omega))
          have hk184 : s177 (176) = σ (176) := hc180
          have hk185 : s177 (E0) = σ (E0) := (hf179 (E0) (by omega))
          exact ra_ireturn rfl (ra_okB hz178) ⟨⟨_, hz178, (x4oc_f (c := 3) (a := ta) hz178p (x4lay_3 hw h5 (by omega)) (by omega) (by omega)), rfl⟩, ⟨hF182, hk183, hk184, (by omega)⟩⟩
    · refine ra_load rfl rfl rfl rfl ?_
      refine ra_getB rfl lk_6_28 (Nat.zero_le _) sh_175 rfl ?_
      refine ra_ifeqB rfl rfl (fun h186 => ?_) (fun h186 => ?_)
      · exact ra_weak (by repeat' constructor) (l4_101_85 hE0 hq hB hN hA hnw v2 v3 hv2 hv3 hw h5 (show (v2 = 1 → r 101 ≠ 1) ∧ (v2 = 0 → v3 = 1 → r 102 ≠ 1) ∧ (v2 = 0 → v3 = 0 → r 103 ≠ 1) by omega))
      · refine ra_goto rfl rfl ?_
        refine ra_load rfl rfl rfl rfl ?_
        refine ra_iconst rfl ?_
        refine ra_cQP (s4_107 (by first | omega | (unfold ra_in at *; omega))) rfl (ct_107 rfl lk_6_50 (Or.inl rfl) sh_175 (Nat.le_of_ble_eq_true rfl)) (fun z188 s187 hz188 hz188p hs187 => ?_)
        obtain ⟨hf189, hc190, he191⟩ := hs187
        have hF192 := Fr_tr (lo := 14) (hi := 177) Fr_rf hf189 (by omega)
        have hk193 : s187 (40) = σ (40) := (hf189 (40) (by omega))
        have hk194 : s187 (176) = σ (176) := hc190
        have hk195 : s187 (E0) = σ (E0) := (hf189 (E0) (by omega))
        exact ra_ireturn rfl (ra_okB hz188) ⟨⟨_, hz188, (x4oc_f (c := 3) (a := ta) hz188p (x4lay_3 hw h5 (by omega)) (by omega) (by omega)), rfl⟩, ⟨hF192, hk193, hk194, (by omega)⟩⟩
theorem s4_101 {n : Nat} {f : Nat → Int32} {d : Nat} {E0 : Nat} {σ : ra_V} (hE0 : isD E0) (hq : E0 = 14) (hB : x4TB σ B bn) (hN : x4NXC B bn σ ta) (hA : x4AR r σ E0) (hnw : ¬ tx_isw B bn ta ['p', 'a', 'r', 't'] = true ∧ ¬ tx_isw B bn ta ['l', 'o', 'c', 'k'] = true ∧ ¬ tx_isw B bn ta ['c', 'h', 'u', 'n', 'k'] = true) : ra_C (g_Gs n f) g_sh 0 (d + 7) 101 [.index (175), .index (E0)] σ (fun r9 s => (∃ z : Int, (z = 0 ∨ z = 1) ∧ (x4OC bn s E0 z (tx_stmt B bn r ta)) ∧ r9 = .inl (some (ra_I z))) ∧ Fr (14) (177) σ s ∧ s (40) = σ (40) ∧ s (176) = σ (176) ∧ ra_g s 175 1 = ra_g σ 175 1) := by
  refine ra_enter (nn := 2) mt_101 rfl (Nat.le_of_ble_eq_true rfl) rfl (fun h => absurd h (by decide +kernel)) ?_
  have hA0 := hA
  obtain ⟨a1, a2, a3, a4, a5, a6, a7⟩ := hA0
  have hN0 := hN
  obtain ⟨n1, n2, n3, n4, n5, n6, n7, n8, n9⟩ := hN0
  have hB0 := hB
  obtain ⟨b1, b2, b3, b4⟩ := hB0
  refine ra_load rfl rfl rfl rfl ?_
  refine ra_ldcS rfl lk_6_96 ?_
  refine ra_cQPp (s4_112 lk_6_96 (by decide) hB (by first | assumption | rfl | omega)) rfl (ct_112 rfl lk_6_46 (Or.inl rfl) sh_175 (Nat.le_of_ble_eq_true rfl)) (fun z2 hz2 hz2p => ?_)
  have w1 : x4IFW z2 (tx_isw B bn ta ['h', 'e', 'a', 'd'] = true) := by rw [show "head".toList = ['h', 'e', 'a', 'd'] by decide] at hz2p; exact hz2p
  clear hz2p
  refine ra_store (L' := [_, _, _, _]) rfl rfl rfl (Nat.le_of_ble_eq_true rfl) rfl ?_
  refine ra_load rfl rfl rfl rfl ?_
  refine ra_ldcS rfl lk_6_98 ?_
  refine ra_cQPp (s4_112 lk_6_98 (by decide) hB (by first | assumption | rfl | omega)) rfl (ct_112 rfl lk_6_46 (Or.inl rfl) sh_175 (Nat.le_of_ble_eq_true rfl)) (fun z4 hz4 hz4p => ?_)
  have w2 : x4IFW z4 (tx_isw B bn ta ['t', 'a', 'i', 'l'] = true) := by rw [show "tail".toList = ['t', 'a', 'i', 'l'] by decide] at hz4p; exact hz4p
  clear hz4p
  refine ra_store (L' := [_, _, _, _]) rfl rfl rfl (Nat.le_of_ble_eq_true rfl) rfl ?_
  refine ra_load rfl rfl rfl rfl ?_
  refine ra_ifne rfl rfl (ra_in01 hz2) (fun h5 => ?_) (fun h5 => ?_)
  · refine ra_load rfl rfl rfl rfl ?_
    refine ra_cTp (s4_4 hE0 a6) rfl (ct_4 rfl lk_6_102 (Or.inl rfl) (sh_D hE0) (Nat.le_of_ble_eq_true rfl)) ?_
    have hr7 : ra_in ((r 5)) := (x4SZ_in a6)
    refine ra_ifle rfl rfl hr7 (fun h8 => ?_) (fun h8 => ?_)
    · exact ra_weak (by repeat' constructor) (l4_101_44 hE0 hq hB hN hA hnw z2 z4 hz2 hz4 (by first | exact Or.inl ⟨by omega, Iff.mp w1 (by omega)⟩ | exact Or.inr (Or.inl ⟨by omega, by omega, Iff.mp w2 (by omega)⟩) | exact Or.inr (Or.inr ⟨by omega, by omega, Iff.mp w3 (by omega)⟩)) (by omega))
    · refine ra_load rfl rfl rfl rfl ?_
      refine ra_iconst rfl ?_
      refine ra_cQP (s4_107 (by first | omega | (unfold ra_in at *; omega))) rfl (ct_107 rfl lk_6_50 (Or.inl rfl) sh_175 (Nat.le_of_ble_eq_true rfl)) (fun z197 s196 hz197 hz197p hs196 => ?_)
      obtain ⟨hf198, hc199, he200⟩ := hs196
      have hF201 := Fr_tr (lo := 14) (hi := 177) Fr_rf hf198 (by omega)
      have hk202 : s196 (40) = σ (40) := (hf198 (40) (by omega))
      have hk203 : s196 (176) = σ (176) := hc199
      have hk204 : s196 (E0) = σ (E0) := (hf198 (E0) (by omega))
      exact ra_ireturn rfl (ra_okB hz197) ⟨⟨_, hz197, (x4oc_f (c := 1) (a := ta) hz197p (x4lay_1 hnw (by first | exact Or.inr (by omega) | exact Or.inl ⟨fun q => absurd (Iff.mpr w1 q) (by omega), fun q => absurd (Iff.mpr w2 q) (by omega), fun q => absurd (Iff.mpr w3 q) (by omega)⟩)) (by omega) (by omega)), rfl⟩, ⟨hF201, hk202, hk203, (by omega)⟩⟩
  · refine ra_load rfl rfl rfl rfl ?_
    refine ra_ifne rfl rfl (ra_in01 hz4) (fun h205 => ?_) (fun h205 => ?_)
    · refine ra_load rfl rfl rfl rfl ?_
      refine ra_cTp (s4_4 hE0 a6) rfl (ct_4 rfl lk_6_102 (Or.inl rfl) (sh_D hE0) (Nat.le_of_ble_eq_true rfl)) ?_
      have hr207 : ra_in ((r 5)) := (x4SZ_in a6)
      refine ra_ifle rfl rfl hr207 (fun h208 => ?_) (fun h208 => ?_)
      · exact ra_weak (by repeat' constructor) (l4_101_44 hE0 hq hB hN hA hnw z2 z4 hz2 hz4 (by first | exact Or.inl ⟨by omega, Iff.mp w1 (by omega)⟩ | exact Or.inr (Or.inl ⟨by omega, by omega, Iff.mp w2 (by omega)⟩) | exact Or.inr (Or.inr ⟨by omega, by omega, Iff.mp w3 (by omega)⟩)) (by omega))
      · refine ra_load rfl rfl rfl rfl ?_
        refine ra_iconst rfl ?_
        refine ra_cQP (s4_107 (by first | omega | (unfold ra_in at *; omega))) rfl (ct_107 rfl lk_6_50 (Or.inl rfl) sh_175 (Nat.le_of_ble_eq_true rfl)) (fun z210 s209 hz210 hz210p hs209 => ?_)
        obtain ⟨hf211, hc212, he213⟩ := hs209
        have hF214 := Fr_tr (lo := 14) (hi := 177) Fr_rf hf211 (by omega)
        have hk215 : s209 (40) = σ (40) := (hf211 (40) (by omega))
        have hk216 : s209 (176) = σ (176) := hc212
        have hk217 : s209 (E0) = σ (E0) := (hf211 (E0) (by omega))
        exact ra_ireturn rfl (ra_okB hz210) ⟨⟨_, hz210, (x4oc_f (c := 1) (a := ta) hz210p (x4lay_1 hnw (by first | exact Or.inr (by omega) | exact Or.inl ⟨fun q => absurd (Iff.mpr w1 q) (by omega), fun q => absurd (Iff.mpr w2 q) (by omega), fun q => absurd (Iff.mpr w3 q) (by omega)⟩)) (by omega) (by omega)), rfl⟩, ⟨hF214, hk215, hk216, (by omega)⟩⟩
    · refine ra_load rfl rfl rfl rfl ?_
      refine ra_ldcS rfl lk_6_100 ?_
      refine ra_cQPp (s4_112 lk_6_100 (by decide) hB (by first | assumption | rfl | omega)) rfl (ct_112 rfl lk_6_46 (Or.inl rfl) sh_175 (Nat.le_of_ble_eq_true rfl)) (fun z219 hz219 hz219p => ?_)
      have w3 : x4IFW z219 (tx_isw B bn ta ['a', 'l', 'i', 'g', 'n'] = true) := by rw [show "align".toList = ['a', 'l', 'i', 'g', 'n'] by decide] at hz219p; exact hz219p
      clear hz219p
      refine ra_ifeq rfl rfl (ra_in01 hz219) (fun h220 => ?_) (fun h220 => ?_)
      · refine ra_load rfl rfl rfl rfl ?_
        refine ra_iconst rfl ?_
        refine ra_cQP (s4_107 (by first | omega | (unfold ra_in at *; omega))) rfl (ct_107 rfl lk_6_50 (Or.inl rfl) sh_175 (Nat.le_of_ble_eq_true rfl)) (fun z222 s221 hz222 hz222p hs221 => ?_)
        obtain ⟨hf223, hc224, he225⟩ := hs221
        have hF226 := Fr_tr (lo := 14) (hi := 177) Fr_rf hf223 (by omega)
        have hk227 : s221 (40) = σ (40) := (hf223 (40) (by omega))
        have hk228 : s221 (176) = σ (176) := hc224
        have hk229 : s221 (E0) = σ (E0) := (hf223 (E0) (by omega))
        exact ra_ireturn rfl (ra_okB hz222) ⟨⟨_, hz222, (x4oc_f (c := 1) (a := ta) hz222p (x4lay_1 hnw (by first | exact Or.inr (by omega) | exact Or.inl ⟨fun q => absurd (Iff.mpr w1 q) (by omega), fun q => absurd (Iff.mpr w2 q) (by omega), fun q => absurd (Iff.mpr w3 q) (by omega)⟩)) (by omega) (by omega)), rfl⟩, ⟨hF226, hk227, hk228, (by omega)⟩⟩
      · refine ra_load rfl rfl rfl rfl ?_
        refine ra_cTp (s4_4 hE0 a6) rfl (ct_4 rfl lk_6_102 (Or.inl rfl) (sh_D hE0) (Nat.le_of_ble_eq_true rfl)) ?_
        have hr231 : ra_in ((r 5)) := (x4SZ_in a6)
        refine ra_ifle rfl rfl hr231 (fun h232 => ?_) (fun h232 => ?_)
        · exact ra_weak (by repeat' constructor) (l4_101_44 hE0 hq hB hN hA hnw z2 z4 hz2 hz4 (by first | exact Or.inl ⟨by omega, Iff.mp w1 (by omega)⟩ | exact Or.inr (Or.inl ⟨by omega, by omega, Iff.mp w2 (by omega)⟩) | exact Or.inr (Or.inr ⟨by omega, by omega, Iff.mp w3 (by omega)⟩)) (by omega))
        · refine ra_load rfl rfl rfl rfl ?_
          refine ra_iconst rfl ?_
          refine ra_cQP (s4_107 (by first | omega | (unfold ra_in at *; omega))) rfl (ct_107 rfl lk_6_50 (Or.inl rfl) sh_175 (Nat.le_of_ble_eq_true rfl)) (fun z234 s233 hz234 hz234p hs233 => ?_)
          obtain ⟨hf235, hc236, he237⟩ := hs233
          have hF238 := Fr_tr (lo := 14) (hi := 177) Fr_rf hf235 (by omega)
          have hk239 : s233 (40) = σ (40) := (hf235 (40) (by omega))
          have hk240 : s233 (176) = σ (176) := hc236
          have hk241 : s233 (E0) = σ (E0) := (hf235 (E0) (by omega))
          exact ra_ireturn rfl (ra_okB hz234) ⟨⟨_, hz234, (x4oc_f (c := 1) (a := ta) hz234p (x4lay_1 hnw (by first | exact Or.inr (by omega) | exact Or.inl ⟨fun q => absurd (Iff.mpr w1 q) (by omega), fun q => absurd (Iff.mpr w2 q) (by omega), fun q => absurd (Iff.mpr w3 q) (by omega)⟩)) (by omega) (by omega)), rfl⟩, ⟨hF238, hk239, hk240, (by omega)⟩⟩
theorem s4_100 {n : Nat} {f : Nat → Int32} {d : Nat} {E0 : Nat} {σ : ra_V} (hE0 : isD E0) (hq : E0 = 14) (hB : x4TB σ B bn) (hN : x4NXC B bn σ ta) (hA : x4AR r σ E0) : ra_C (g_Gs n f) g_sh 0 (d + 8) 100 [.index (175), .index (E0)] σ (fun r9 s => (∃ z : Int, (z = 0 ∨ z = 1) ∧ (x4OC bn s E0 z (tx_ps B bn (tx_stmt B bn r ta))) ∧ r9 = .inl (some (ra_I z))) ∧ Fr (14) (177) σ s ∧ s (40) = σ (40) ∧ s (176) = σ (176) ∧ ra_g s 175 1 = ra_g σ 175 1) := by
  refine ra_enter (nn := 0) mt_100 rfl (Nat.le_of_ble_eq_true rfl) rfl (fun h => absurd h (by decide +kernel)) ?_
  have hA0 := hA
  obtain ⟨a1, a2, a3, a4, a5, a6, a7⟩ := hA0
  have hN0 := hN
  obtain ⟨n1, n2, n3, n4, n5, n6, n7, n8, n9⟩ := hN0
  have hB0 := hB
  obtain ⟨b1, b2, b3, b4⟩ := hB0
  refine ra_load rfl rfl rfl rfl ?_
  refine ra_ldcS rfl lk_6_78 ?_
  refine ra_cQPp (s4_112 lk_6_78 (by decide) hB (by first | assumption | rfl | omega)) rfl (ct_112 rfl lk_6_46 (Or.inl rfl) sh_175 (Nat.le_of_ble_eq_true rfl)) (fun z2 hz2 hz2p => ?_)
  have w1 : x4IFW z2 (tx_isw B bn ta ['p', 'a', 'r', 't'] = true) := by rw [show "part".toList = ['p', 'a', 'r', 't'] by decide] at hz2p; exact hz2p
  clear hz2p
  refine ra_ifeq rfl rfl (ra_in01 hz2) (fun h3 => ?_) (fun h3 => ?_)
  · refine ra_load rfl rfl rfl rfl ?_
    refine ra_ldcS rfl lk_6_83 ?_
    refine ra_cQPp (s4_112 lk_6_83 (by decide) hB (by first | assumption | rfl | omega)) rfl (ct_112 rfl lk_6_46 (Or.inl rfl) sh_175 (Nat.le_of_ble_eq_true rfl)) (fun z5 hz5 hz5p => ?_)
    have w2 : x4IFW z5 (tx_isw B bn ta ['l', 'o', 'c', 'k'] = true) := by rw [show "lock".toList = ['l', 'o', 'c', 'k'] by decide] at hz5p; exact hz5p
    clear hz5p
    refine ra_ifeq rfl rfl (ra_in01 hz5) (fun h6 => ?_) (fun h6 => ?_)
    · refine ra_load rfl rfl rfl rfl ?_
      refine ra_ldcS rfl lk_6_88 ?_
      refine ra_cQPp (s4_112 lk_6_88 (by decide) hB (by first | assumption | rfl | omega)) rfl (ct_112 rfl lk_6_46 (Or.inl rfl) sh_175 (Nat.le_of_ble_eq_true rfl)) (fun z8 hz8 hz8p => ?_)
      have w3 : x4IFW z8 (tx_isw B bn ta ['c', 'h', 'u', 'n', 'k'] = true) := by rw [show "chunk".toList = ['c', 'h', 'u', 'n', 'k'] by decide] at hz8p; exact hz8p
      clear hz8p
      refine ra_ifeq rfl rfl (ra_in01 hz8) (fun h9 => ?_) (fun h9 => ?_)
      · refine ra_load rfl rfl rfl rfl ?_
        refine ra_load rfl rfl rfl rfl ?_
        refine ra_cQPs (s4_101 hE0 (by first | assumption | rfl | omega) hB (by first | assumption | rfl | omega) (by first | assumption | rfl | omega) ⟨fun q => absurd (Iff.mpr w1 q) (by omega), fun q => absurd (Iff.mpr w2 q) (by omega), fun q => absurd (Iff.mpr w3 q) (by omega)⟩) rfl (ct_101 rfl lk_6_93 (Or.inl rfl) sh_175 (Nat.le_of_ble_eq_true rfl)) (fun z11 s10 hz11 hz11p hs10 => ?_)
        obtain ⟨hf12, hc13, hc14, he15⟩ := hs10
        have hF16 := Fr_tr (lo := 14) (hi := 177) Fr_rf hf12 (by omega)
        have hk17 : s10 (40) = σ (40) := hc13
        have hk18 : s10 (176) = σ (176) := hc14
        refine ra_ifeq rfl rfl (ra_in01 hz11) (fun h19 => ?_) (fun h19 => ?_)
        · refine ra_iconst rfl ?_
          exact ra_ireturn rfl (ra_okB (Or.inl rfl)) ⟨⟨_, (Or.inl rfl), (by exact x4ps_n hz11p (by omega) rfl), rfl⟩, ⟨hF16, hk17, hk18, (by omega)⟩⟩
        · obtain ⟨-, r2, e2, ho2, hA2, hp2, he2⟩ := hz11p.resolve_right (fun q => by omega)
          refine ra_load rfl rfl rfl rfl ?_
          refine ra_cQPs (s4_105 (x4TB_k (by omega) hk18 hB) (show ra_g s10 175 4 = ((e2 : Nat) : Int) from (by omega)) (by omega)) rfl (ct_105 rfl lk_6_67 (Or.inl rfl) sh_175 (Nat.le_of_ble_eq_true rfl)) (fun z21 s20 hz21 hz21p hs20 => ?_)
          obtain ⟨hf22, hc23, he24⟩ := hs20
          have hF25 := Fr_tr (lo := 14) (hi := 177) hF16 hf22 (by omega)
          have hk26 : s20 (40) = σ (40) := (hf22 (40) (by omega)).trans hk17
          have hk27 : s20 (176) = σ (176) := hc23.trans hk18
          refine ra_ifeq rfl rfl (ra_in01 hz21) (fun h28 => ?_) (fun h28 => ?_)
          · refine ra_iconst rfl ?_
            exact ra_ireturn rfl (ra_okB (Or.inl rfl)) ⟨⟨_, (Or.inl rfl), (by exact x4ps_f ho2 hz21p (by omega) rfl), rfl⟩, ⟨hF25, hk26, hk27, (by omega)⟩⟩
          · refine ra_iconst rfl ?_
            refine ra_goto rfl rfl ?_
            exact ra_ireturn rfl (ra_okB (Or.inr rfl)) ⟨⟨_, (Or.inr rfl), (by exact x4ps_y ho2 hA2 hz21p (by omega) rfl (fun j hj => hf22 (E0 + j) (by omega)) (by omega)), rfl⟩, ⟨hF25, hk26, hk27, (by omega)⟩⟩
      · refine ra_load rfl rfl rfl rfl ?_
        refine ra_load rfl rfl rfl rfl ?_
        refine ra_cQPs (s4_102 hE0 (by first | assumption | rfl | omega) hB (by first | assumption | rfl | omega) (by first | assumption | rfl | omega)) rfl (ct_102 rfl lk_6_90 (Or.inl rfl) sh_175 (Nat.le_of_ble_eq_true rfl)) (fun z30 s29 hz30 hz30p hs29 => ?_)
        obtain ⟨hf31, hc32, hc33, he34⟩ := hs29
        have hF35 := Fr_tr (lo := 14) (hi := 177) Fr_rf hf31 (by omega)
        have hk36 : s29 (40) = σ (40) := hc32
        have hk37 : s29 (176) = σ (176) := hc33
        refine ra_ifeq rfl rfl (ra_in01 hz30) (fun h38 => ?_) (fun h38 => ?_)
        · refine ra_iconst rfl ?_
          exact ra_ireturn rfl (ra_okB (Or.inl rfl)) ⟨⟨_, (Or.inl rfl), (by rw [x4stm_chunk (Iff.mp w3 (by omega))]; exact x4ps_n hz30p (by omega) rfl), rfl⟩, ⟨hF35, hk36, hk37, (by omega)⟩⟩
        · obtain ⟨-, r2, e2, ho2, hA2, hp2, he2⟩ := hz30p.resolve_right (fun q => by omega)
          refine ra_load rfl rfl rfl rfl ?_
          refine ra_cQPs (s4_105 (x4TB_k (by omega) hk37 hB) (show ra_g s29 175 4 = ((e2 : Nat) : Int) from (by omega)) (by omega)) rfl (ct_105 rfl lk_6_67 (Or.inl rfl) sh_175 (Nat.le_of_ble_eq_true rfl)) (fun z40 s39 hz40 hz40p hs39 => ?_)
          obtain ⟨hf41, hc42, he43⟩ := hs39
          have hF44 := Fr_tr (lo := 14) (hi := 177) hF35 hf41 (by omega)
          have hk45 : s39 (40) = σ (40) := (hf41 (40) (by omega)).trans hk36
          have hk46 : s39 (176) = σ (176) := hc42.trans hk37
          refine ra_ifeq rfl rfl (ra_in01 hz40) (fun h47 => ?_) (fun h47 => ?_)
          · refine ra_iconst rfl ?_
            exact ra_ireturn rfl (ra_okB (Or.inl rfl)) ⟨⟨_, (Or.inl rfl), (by rw [x4stm_chunk (Iff.mp w3 (by omega))]; exact x4ps_f ho2 hz40p (by omega) rfl), rfl⟩, ⟨hF44, hk45, hk46, (by omega)⟩⟩
          · refine ra_iconst rfl ?_
            refine ra_goto rfl rfl ?_
            exact ra_ireturn rfl (ra_okB (Or.inr rfl)) ⟨⟨_, (Or.inr rfl), (by rw [x4stm_chunk (Iff.mp w3 (by omega))]; exact x4ps_y ho2 hA2 hz40p (by omega) rfl (fun j hj => hf41 (E0 + j) (by omega)) (by omega)), rfl⟩, ⟨hF44, hk45, hk46, (by omega)⟩⟩
    · refine ra_load rfl rfl rfl rfl ?_
      refine ra_load rfl rfl rfl rfl ?_
      refine ra_cQPs (s4_104 hE0 (by first | assumption | rfl | omega) hB (by first | assumption | rfl | omega) (by first | assumption | rfl | omega)) rfl (ct_104 rfl lk_6_85 (Or.inl rfl) sh_175 (Nat.le_of_ble_eq_true rfl)) (fun z49 s48 hz49 hz49p hs48 => ?_)
      obtain ⟨hf50, hc51, hc52, he53⟩ := hs48
      have hF54 := Fr_tr (lo := 14) (hi := 177) Fr_rf hf50 (by omega)
      have hk55 : s48 (40) = σ (40) := hc51
      have hk56 : s48 (176) = σ (176) := hc52
      refine ra_ifeq rfl rfl (ra_in01 hz49) (fun h57 => ?_) (fun h57 => ?_)
      · refine ra_iconst rfl ?_
        exact ra_ireturn rfl (ra_okB (Or.inl rfl)) ⟨⟨_, (Or.inl rfl), (by rw [x4stm_lock (Iff.mp w2 (by omega))]; exact x4ps_n hz49p (by omega) rfl), rfl⟩, ⟨hF54, hk55, hk56, (by omega)⟩⟩
      · obtain ⟨-, r2, e2, ho2, hA2, hp2, he2⟩ := hz49p.resolve_right (fun q => by omega)
        refine ra_load rfl rfl rfl rfl ?_
        refine ra_cQPs (s4_105 (x4TB_k (by omega) hk56 hB) (show ra_g s48 175 4 = ((e2 : Nat) : Int) from (by omega)) (by omega)) rfl (ct_105 rfl lk_6_67 (Or.inl rfl) sh_175 (Nat.le_of_ble_eq_true rfl)) (fun z59 s58 hz59 hz59p hs58 => ?_)
        obtain ⟨hf60, hc61, he62⟩ := hs58
        have hF63 := Fr_tr (lo := 14) (hi := 177) hF54 hf60 (by omega)
        have hk64 : s58 (40) = σ (40) := (hf60 (40) (by omega)).trans hk55
        have hk65 : s58 (176) = σ (176) := hc61.trans hk56
        refine ra_ifeq rfl rfl (ra_in01 hz59) (fun h66 => ?_) (fun h66 => ?_)
        · refine ra_iconst rfl ?_
          exact ra_ireturn rfl (ra_okB (Or.inl rfl)) ⟨⟨_, (Or.inl rfl), (by rw [x4stm_lock (Iff.mp w2 (by omega))]; exact x4ps_f ho2 hz59p (by omega) rfl), rfl⟩, ⟨hF63, hk64, hk65, (by omega)⟩⟩
        · refine ra_iconst rfl ?_
          refine ra_goto rfl rfl ?_
          exact ra_ireturn rfl (ra_okB (Or.inr rfl)) ⟨⟨_, (Or.inr rfl), (by rw [x4stm_lock (Iff.mp w2 (by omega))]; exact x4ps_y ho2 hA2 hz59p (by omega) rfl (fun j hj => hf60 (E0 + j) (by omega)) (by omega)), rfl⟩, ⟨hF63, hk64, hk65, (by omega)⟩⟩
  · refine ra_load rfl rfl rfl rfl ?_
    refine ra_load rfl rfl rfl rfl ?_
    refine ra_cQPs (s4_103 hE0 (by first | assumption | rfl | omega) hB (by first | assumption | rfl | omega) (by first | assumption | rfl | omega)) rfl (ct_103 rfl lk_6_80 (Or.inl rfl) sh_175 (Nat.le_of_ble_eq_true rfl)) (fun z68 s67 hz68 hz68p hs67 => ?_)
    obtain ⟨hf69, hc70, hc71, he72⟩ := hs67
    have hF73 := Fr_tr (lo := 14) (hi := 177) Fr_rf hf69 (by omega)
    have hk74 : s67 (40) = σ (40) := hc70
    have hk75 : s67 (176) = σ (176) := hc71
    refine ra_ifeq rfl rfl (ra_in01 hz68) (fun h76 => ?_) (fun h76 => ?_)
    · refine ra_iconst rfl ?_
      exact ra_ireturn rfl (ra_okB (Or.inl rfl)) ⟨⟨_, (Or.inl rfl), (by rw [x4stm_part (Iff.mp w1 (by omega))]; exact x4ps_n hz68p (by omega) rfl), rfl⟩, ⟨hF73, hk74, hk75, (by omega)⟩⟩
    · obtain ⟨-, r2, e2, ho2, hA2, hp2, he2⟩ := hz68p.resolve_right (fun q => by omega)
      refine ra_load rfl rfl rfl rfl ?_
      refine ra_cQPs (s4_105 (x4TB_k (by omega) hk75 hB) (show ra_g s67 175 4 = ((e2 : Nat) : Int) from (by omega)) (by omega)) rfl (ct_105 rfl lk_6_67 (Or.inl rfl) sh_175 (Nat.le_of_ble_eq_true rfl)) (fun z78 s77 hz78 hz78p hs77 => ?_)
      obtain ⟨hf79, hc80, he81⟩ := hs77
      have hF82 := Fr_tr (lo := 14) (hi := 177) hF73 hf79 (by omega)
      have hk83 : s77 (40) = σ (40) := (hf79 (40) (by omega)).trans hk74
      have hk84 : s77 (176) = σ (176) := hc80.trans hk75
      refine ra_ifeq rfl rfl (ra_in01 hz78) (fun h85 => ?_) (fun h85 => ?_)
      · refine ra_iconst rfl ?_
        exact ra_ireturn rfl (ra_okB (Or.inl rfl)) ⟨⟨_, (Or.inl rfl), (by rw [x4stm_part (Iff.mp w1 (by omega))]; exact x4ps_f ho2 hz78p (by omega) rfl), rfl⟩, ⟨hF82, hk83, hk84, (by omega)⟩⟩
      · refine ra_iconst rfl ?_
        refine ra_goto rfl rfl ?_
        exact ra_ireturn rfl (ra_okB (Or.inr rfl)) ⟨⟨_, (Or.inr rfl), (by rw [x4stm_part (Iff.mp w1 (by omega))]; exact x4ps_y ho2 hA2 hz78p (by omega) rfl (fun j hj => hf79 (E0 + j) (by omega)) (by omega)), rfl⟩, ⟨hF82, hk83, hk84, (by omega)⟩⟩
end
end
section
/-! T4: what the class's methods that read a text do (printed by wip/gen/c4.py) -/
section
variable {B : Nat → Int} {bn ps ta : Nat} {pk uv al : Int} {r : Nat → Int}
theorem l4_99_83 {n : Nat} {f : Nat → Int32} {d : Nat} {E0 : Nat} {σ : ra_V} (hE0 : isD E0) (hq : E0 = 14) (hB : x4TB σ B bn) : ∀ (nn : Nat) (v2 : Int) (v3 : Int) (s : ra_V) (hv2 : v2 = 0 ∨ v2 = 1) (hv3_0 : 0 ≤ v3) (hv3_1 : v3 ≤ 500) (hF : Fr (14) (177) σ s) (hk0 : s (40) = σ (40)) (hk1 : s (176) = σ (176)) (hl1 : ra_g s 175 1 = ra_g σ 175 1) (hL : x4LI B bn s E0 v2 v3) (hm : ((500 - v3 : Int)).toNat < nn), ra_P (g_Gs n f) g_sh 0 (d + 8) g_m_X6_parseInto 83 [some (.index (175)), some (.index (E0)), some (ra_I v2), some (ra_I v3)] [] s (fun r9 s => (∃ z : Int, (z = 0 ∨ z = 1) ∧ (x4PO s E0 z (tx_text B bn)) ∧ r9 = .inl (some (ra_I z))) ∧ Fr (14) (177) σ s ∧ s (40) = σ (40) ∧ s (176) = σ (176) ∧ ra_g s 175 1 = ra_g σ 175 1) := by
  intro nn
  induction nn with
  | zero => intro v2 v3 s hv2 hv3_0 hv3_1 hF hk0 hk1 hl1 hL hm; exact absurd hm (Nat.not_lt_zero _)
  | succ nn ih =>
    intro v2 v3 s hv2 hv3_0 hv3_1 hF hk0 hk1 hl1 hL hm
    have hB0 := hB
    obtain ⟨b1, b2, b3, b4⟩ := hB0
    refine ra_load rfl rfl rfl rfl ?_
    refine ra_ifeq rfl rfl (ra_in01 hv2) (fun h72 => ?_) (fun h72 => ?_)
    · refine ra_load rfl rfl rfl rfl ?_
      exact ra_ireturn rfl (ra_okB hv2) ⟨⟨_, hv2, (x4po_l hL (by omega)), rfl⟩, ⟨hF, hk0, hk1, (by omega)⟩⟩
    · refine ra_load rfl rfl rfl rfl ?_
      refine ra_sipush rfl (by decide) ?_
      refine ra_icge rfl rfl (by first | omega | (unfold ra_in at *; omega)) (by first | omega | (unfold ra_in at *; omega)) (fun h73 => ?_) (fun h73 => ?_)
      · refine ra_load rfl rfl rfl rfl ?_
        exact ra_ireturn rfl (ra_okB hv2) ⟨⟨_, hv2, (x4po_l hL (by omega)), rfl⟩, ⟨hF, hk0, hk1, (by omega)⟩⟩
      · obtain ⟨-, r1, e1, ht1, hA1, hp1, he1⟩ := hL.resolve_right (fun q => by omega)
        refine ra_load rfl rfl rfl rfl ?_
        refine ra_cV (s4_111 (x4TB_k (by omega) hk1 hB) hp1 (by omega)) rfl (ct_111 rfl lk_6_41 (Or.inl rfl) sh_175 (Nat.le_of_ble_eq_true rfl)) (fun s74 hs74 => ?_)
        obtain ⟨hf75, hc76, he77, he78⟩ := hs74
        have hF79 := Fr_tr (lo := 14) (hi := 177) hF hf75 (by omega)
        have hk80 : s74 (40) = σ (40) := (hf75 (40) (by omega)).trans hk0
        have hk81 : s74 (176) = σ (176) := hc76.trans hk1
        have hA3 := x4AR_k (fun j hj => hf75 (E0 + j) (by omega)) (by omega) hA1
        have hN3 := he78
        obtain ⟨n1, n2, n3, n4, n5, n6, n7, n8, n9⟩ := hN3
        refine ra_load rfl rfl rfl rfl ?_
        refine ra_getI rfl lk_6_71 (Nat.zero_le _) sh_175 rfl ?_
        have hr82 : ra_in (ra_g s74 (175) 5) := (ra_in_g _ _ _)
        refine ra_ifne rfl rfl hr82 (fun h83 => ?_) (fun h83 => ?_)
        · refine ra_load rfl rfl rfl rfl ?_
          refine ra_load rfl rfl rfl rfl ?_
          refine ra_cQPs (s4_100 hE0 (by first | assumption | rfl | omega) (x4TB_k (by omega) hk81 hB) he78 hA3) rfl (ct_100 rfl lk_6_74 (Or.inl rfl) sh_175 (Nat.le_of_ble_eq_true rfl)) (fun z85 s84 hz85 hz85p hs84 => ?_)
          obtain ⟨hf86, hc87, hc88, he89⟩ := hs84
          have hF90 := Fr_tr (lo := 14) (hi := 177) hF79 hf86 (by omega)
          have hk91 : s84 (40) = σ (40) := hc87.trans hk80
          have hk92 : s84 (176) = σ (176) := hc88.trans hk81
          refine ra_store (L' := [_, _, _, _]) rfl rfl rfl (Nat.le_of_ble_eq_true rfl) rfl ?_
          refine ra_iinc (L' := [_, _, _, _]) rfl rfl (Nat.le_of_ble_eq_true rfl) rfl ?_
          refine ra_goto rfl rfl ?_
          exact ra_weak (by repeat' constructor) (ih z85 (v3 + 1) s84 hz85 (by first | omega | (unfold ra_in at *; omega)) (by first | omega | (unfold ra_in at *; omega)) hF90 hk91 hk92 (by omega) (x4li_s hz85p ht1 (by omega) (by omega)) (by first | omega | (unfold ra_in at *; omega)))
        · refine ra_iconst rfl ?_
          exact ra_ireturn rfl (ra_okB (Or.inr rfl)) ⟨⟨_, (Or.inr rfl), (x4po_e ht1 hA3 rfl (by omega)), rfl⟩, ⟨hF79, hk80, hk81, (by omega)⟩⟩
theorem s4_99 {n : Nat} {f : Nat → Int32} {d : Nat} {E0 : Nat} {σ : ra_V} (hE0 : isD E0) (hq : E0 = 14) (hB : x4TB σ B bn) : ra_C (g_Gs n f) g_sh 0 (d + 9) 99 [.index (175), .index (E0)] σ (fun r9 s => (∃ z : Int, (z = 0 ∨ z = 1) ∧ (x4PO s E0 z (tx_text B bn)) ∧ r9 = .inl (some (ra_I z))) ∧ Fr (14) (177) σ s ∧ s (40) = σ (40) ∧ s (176) = σ (176) ∧ ra_g s 175 1 = ra_g σ 175 1) := by
  refine ra_enter (nn := 2) mt_99 rfl (Nat.le_of_ble_eq_true rfl) rfl (fun h => absurd h (by decide +kernel)) ?_
  have hB0 := hB
  obtain ⟨b1, b2, b3, b4⟩ := hB0
  refine ra_load rfl rfl rfl rfl ?_
  refine ra_iconst rfl ?_
  refine ra_putI rfl lk_6_15 (Nat.zero_le _) sh_175 rfl rfl ?_
  refine ra_newU (by first | omega | (unfold ra_in at *; omega)) (fun s1 hs1 hp2 hp2o => ?_)
  have hp2_1 := hp2o 1 (by decide)
  have hp2_3 := hp2o 3 (by decide)
  have hp2_4 := hp2o 4 (by decide)
  have hp2_5 := hp2o 5 (by decide)
  have hp2_6 := hp2o 6 (by decide)
  have hp2_7 := hp2o 7 (by decide)
  have hp2_8 := hp2o 8 (by decide)
  have hp2_9 := hp2o 9 (by decide)
  have hp2_10 := hp2o 10 (by decide)
  have hp2_11 := hp2o 11 (by decide)
  have hF3 := Fr_tr (lo := 14) (hi := 177) Fr_rf hs1 (by omega)
  have hk4 : s1 (40) = σ (40) := (hs1 (40) (by omega))
  have hk5 : s1 (176) = σ (176) := (hs1 (176) (by omega))
  refine ra_load rfl rfl rfl rfl ?_
  refine ra_iconst rfl ?_
  refine ra_putI rfl lk_6_19 (Nat.zero_le _) sh_175 rfl rfl ?_
  refine ra_newU (by first | omega | (unfold ra_in at *; omega)) (fun s6 hs6 hp7 hp7o => ?_)
  have hp7_1 := hp7o 1 (by decide)
  have hp7_2 := hp7o 2 (by decide)
  have hp7_4 := hp7o 4 (by decide)
  have hp7_5 := hp7o 5 (by decide)
  have hp7_6 := hp7o 6 (by decide)
  have hp7_7 := hp7o 7 (by decide)
  have hp7_8 := hp7o 8 (by decide)
  have hp7_9 := hp7o 9 (by decide)
  have hp7_10 := hp7o 10 (by decide)
  have hp7_11 := hp7o 11 (by decide)
  have hF8 := Fr_tr (lo := 14) (hi := 177) hF3 hs6 (by omega)
  have hk9 : s6 (40) = σ (40) := (hs6 (40) (by omega)).trans hk4
  have hk10 : s6 (176) = σ (176) := (hs6 (176) (by omega)).trans hk5
  refine ra_load rfl rfl rfl rfl ?_
  refine ra_iconst rfl ?_
  refine ra_putI rfl lk_6_25 (Nat.zero_le _) sh_175 rfl rfl ?_
  refine ra_newU (by first | omega | (unfold ra_in at *; omega)) (fun s11 hs11 hp12 hp12o => ?_)
  have hp12_1 := hp12o 1 (by decide)
  have hp12_2 := hp12o 2 (by decide)
  have hp12_3 := hp12o 3 (by decide)
  have hp12_5 := hp12o 5 (by decide)
  have hp12_6 := hp12o 6 (by decide)
  have hp12_7 := hp12o 7 (by decide)
  have hp12_8 := hp12o 8 (by decide)
  have hp12_9 := hp12o 9 (by decide)
  have hp12_10 := hp12o 10 (by decide)
  have hp12_11 := hp12o 11 (by decide)
  have hF13 := Fr_tr (lo := 14) (hi := 177) hF8 hs11 (by omega)
  have hk14 : s11 (40) = σ (40) := (hs11 (40) (by omega)).trans hk9
  have hk15 : s11 (176) = σ (176) := (hs11 (176) (by omega)).trans hk10
  refine ra_load rfl rfl rfl rfl ?_
  refine ra_iconst rfl ?_
  refine ra_putB rfl lk_6_28 (Nat.zero_le _) sh_175 rfl rfl (Or.inl rfl) ?_
  refine ra_newU (ra_in01 (Or.inl rfl)) (fun s16 hs16 hp17 hp17o => ?_)
  have hp17_1 := hp17o 1 (by decide)
  have hp17_2 := hp17o 2 (by decide)
  have hp17_3 := hp17o 3 (by decide)
  have hp17_4 := hp17o 4 (by decide)
  have hp17_5 := hp17o 5 (by decide)
  have hp17_6 := hp17o 6 (by decide)
  have hp17_7 := hp17o 7 (by decide)
  have hp17_9 := hp17o 9 (by decide)
  have hp17_10 := hp17o 10 (by decide)
  have hp17_11 := hp17o 11 (by decide)
  have hF18 := Fr_tr (lo := 14) (hi := 177) hF13 hs16 (by omega)
  have hk19 : s16 (40) = σ (40) := (hs16 (40) (by omega)).trans hk14
  have hk20 : s16 (176) = σ (176) := (hs16 (176) (by omega)).trans hk15
  refine ra_load rfl rfl rfl rfl ?_
  refine ra_iconst rfl ?_
  refine ra_putB rfl lk_6_32 (Nat.zero_le _) sh_175 rfl rfl (Or.inl rfl) ?_
  refine ra_newU (ra_in01 (Or.inl rfl)) (fun s21 hs21 hp22 hp22o => ?_)
  have hp22_1 := hp22o 1 (by decide)
  have hp22_2 := hp22o 2 (by decide)
  have hp22_3 := hp22o 3 (by decide)
  have hp22_4 := hp22o 4 (by decide)
  have hp22_5 := hp22o 5 (by decide)
  have hp22_6 := hp22o 6 (by decide)
  have hp22_7 := hp22o 7 (by decide)
  have hp22_8 := hp22o 8 (by decide)
  have hp22_10 := hp22o 10 (by decide)
  have hp22_11 := hp22o 11 (by decide)
  have hF23 := Fr_tr (lo := 14) (hi := 177) hF18 hs21 (by omega)
  have hk24 : s21 (40) = σ (40) := (hs21 (40) (by omega)).trans hk19
  have hk25 : s21 (176) = σ (176) := (hs21 (176) (by omega)).trans hk20
  refine ra_load rfl rfl rfl rfl ?_
  refine ra_iconst rfl ?_
  refine ra_putB rfl lk_6_35 (Nat.zero_le _) sh_175 rfl rfl (Or.inl rfl) ?_
  refine ra_newU (ra_in01 (Or.inl rfl)) (fun s26 hs26 hp27 hp27o => ?_)
  have hp27_1 := hp27o 1 (by decide)
  have hp27_2 := hp27o 2 (by decide)
  have hp27_3 := hp27o 3 (by decide)
  have hp27_4 := hp27o 4 (by decide)
  have hp27_5 := hp27o 5 (by decide)
  have hp27_6 := hp27o 6 (by decide)
  have hp27_7 := hp27o 7 (by decide)
  have hp27_8 := hp27o 8 (by decide)
  have hp27_9 := hp27o 9 (by decide)
  have hp27_11 := hp27o 11 (by decide)
  have hF28 := Fr_tr (lo := 14) (hi := 177) hF23 hs26 (by omega)
  have hk29 : s26 (40) = σ (40) := (hs26 (40) (by omega)).trans hk24
  have hk30 : s26 (176) = σ (176) := (hs26 (176) (by omega)).trans hk25
  refine ra_load rfl rfl rfl rfl ?_
  refine ra_iconst rfl ?_
  refine ra_putB rfl lk_6_38 (Nat.zero_le _) sh_175 rfl rfl (Or.inl rfl) ?_
  refine ra_newU (ra_in01 (Or.inl rfl)) (fun s31 hs31 hp32 hp32o => ?_)
  have hp32_1 := hp32o 1 (by decide)
  have hp32_2 := hp32o 2 (by decide)
  have hp32_3 := hp32o 3 (by decide)
  have hp32_4 := hp32o 4 (by decide)
  have hp32_5 := hp32o 5 (by decide)
  have hp32_6 := hp32o 6 (by decide)
  have hp32_7 := hp32o 7 (by decide)
  have hp32_8 := hp32o 8 (by decide)
  have hp32_9 := hp32o 9 (by decide)
  have hp32_10 := hp32o 10 (by decide)
  have hF33 := Fr_tr (lo := 14) (hi := 177) hF28 hs31 (by omega)
  have hk34 : s31 (40) = σ (40) := (hs31 (40) (by omega)).trans hk29
  have hk35 : s31 (176) = σ (176) := (hs31 (176) (by omega)).trans hk30
  refine ra_load rfl rfl rfl rfl ?_
  refine ra_cV (s4_111 (x4TB_k (by omega) hk35 hB) (show ra_g s31 175 4 = ((0 : Nat) : Int) by omega) (by omega)) rfl (ct_111 rfl lk_6_41 (Or.inl rfl) sh_175 (Nat.le_of_ble_eq_true rfl)) (fun s36 hs36 => ?_)
  obtain ⟨hf37, hc38, he39, he40⟩ := hs36
  have hF41 := Fr_tr (lo := 14) (hi := 177) hF33 hf37 (by omega)
  have hk42 : s36 (40) = σ (40) := (hf37 (40) (by omega)).trans hk34
  have hk43 : s36 (176) = σ (176) := hc38.trans hk35
  have hN1 := he40
  obtain ⟨n1, n2, n3, n4, n5, n6, n7, n8, n9⟩ := hN1
  refine ra_load rfl rfl rfl rfl ?_
  refine ra_ldcS rfl lk_6_44 ?_
  refine ra_cQPp (s4_112 lk_6_44 (by decide) (x4TB_k (by omega) hk43 hB) he40) rfl (ct_112 rfl lk_6_46 (Or.inl rfl) sh_175 (Nat.le_of_ble_eq_true rfl)) (fun z45 hz45 hz45p => ?_)
  have w1 : x4IFW z45 (tx_isw B bn (tx_a B bn 0) ['d', 'i', 's', 'k'] = true) := by rw [show "disk".toList = ['d', 'i', 's', 'k'] by decide] at hz45p; exact hz45p
  clear hz45p
  refine ra_ifne rfl rfl (ra_in01 hz45) (fun h46 => ?_) (fun h46 => ?_)
  · refine ra_load rfl rfl rfl rfl ?_
    refine ra_bipush rfl (by decide) ?_
    refine ra_sipush rfl (by decide) ?_
    refine ra_cQPs (s4_106 (by first | omega | (unfold ra_in at *; omega)) (by first | omega | (unfold ra_in at *; omega)) (x4TB_k (by omega) hk43 hB) (show ra_g s36 175 4 = ((tx_e B bn (tx_a B bn 0) : Nat) : Int) by omega) (by omega)) rfl (ct_106 rfl lk_6_54 (Or.inl rfl) sh_175 (Nat.le_of_ble_eq_true rfl)) (fun z48 s47 hz48 hz48p hs47 => ?_)
    obtain ⟨hf49, hc50, he51⟩ := hs47
    have hF52 := Fr_tr (lo := 14) (hi := 177) hF41 hf49 (by omega)
    have hk53 : s47 (40) = σ (40) := (hf49 (40) (by omega)).trans hk42
    have hk54 : s47 (176) = σ (176) := hc50.trans hk43
    refine ra_ifne rfl rfl (ra_in01 hz48) (fun h55 => ?_) (fun h55 => ?_)
    · obtain ⟨-, v1_, e1, hr1, rfl, hp1, he1, hl1, hu1, hk1, hk1b, hn1⟩ := hz48p.resolve_right (fun q => by omega)
      refine ra_load rfl rfl rfl rfl ?_
      refine ra_load rfl rfl rfl rfl ?_
      refine ra_getI rfl lk_6_58 (Nat.zero_le _) sh_175 rfl ?_
      have hr56 : ra_in (ra_g s47 (175) 7) := (ra_in_g _ _ _)
      refine ra_cV (s4_1 hE0 hr56) rfl (ct_1 rfl lk_6_61 (Or.inl rfl) (sh_D hE0) (Nat.le_of_ble_eq_true rfl)) (fun s57 hs57 => ?_)
      obtain ⟨hf58, he59, he60⟩ := hs57
      have hF61 := Fr_tr (lo := 14) (hi := 177) hF52 hf58 (by omega)
      have hk62 : s57 (40) = σ (40) := (hf58 (40) (by omega)).trans hk53
      have hk63 : s57 (176) = σ (176) := (hf58 (176) (by omega)).trans hk54
      have hA4 : x4AR (tx_r0 (ra_g s47 175 7)) s57 E0 := x4AR_0 ⟨by omega, by omega⟩ he59 he60 ⟨((ra_gk (hf58 (175) (by omega))).trans (by omega)), ((ra_gk (hf58 (175) (by omega))).trans (by omega)), ((ra_gk (hf58 (175) (by omega))).trans (by omega)), ((ra_gk (hf58 (175) (by omega))).trans (by omega)), ((ra_gk (hf58 (175) (by omega))).trans (by omega)), ((ra_gk (hf58 (175) (by omega))).trans (by omega))⟩
      have hp4 : ra_g s57 175 4 = (e1 : Nat) := ((ra_gk (hf58 (175) (by omega))).trans (by omega))
      have hl4 : ra_g s57 175 1 = ra_g σ 175 1 := ((ra_gk (hf58 (175) (by omega))).trans (by omega))
      refine ra_load rfl rfl rfl rfl ?_
      refine ra_cQPs (s4_105 (x4TB_k ((ra_gk (hf58 (175) (by omega))).trans (by omega)) hk63 hB) hp4 (by omega)) rfl (ct_105 rfl lk_6_67 (Or.inl rfl) sh_175 (Nat.le_of_ble_eq_true rfl)) (fun z65 s64 hz65 hz65p hs64 => ?_)
      obtain ⟨hf66, hc67, he68⟩ := hs64
      have hF69 := Fr_tr (lo := 14) (hi := 177) hF61 hf66 (by omega)
      have hk70 : s64 (40) = σ (40) := (hf66 (40) (by omega)).trans hk62
      have hk71 : s64 (176) = σ (176) := hc67.trans hk63
      refine ra_store (L' := [_, _, _, _]) rfl rfl rfl (Nat.le_of_ble_eq_true rfl) rfl ?_
      refine ra_iconst rfl ?_
      refine ra_store (L' := [_, _, _, _]) rfl rfl rfl (Nat.le_of_ble_eq_true rfl) rfl ?_
      exact ra_weak (by repeat' constructor) (l4_99_83 hE0 hq hB _ z65 (0) s64 hz65 (by first | omega | (unfold ra_in at *; omega)) (by first | omega | (unfold ra_in at *; omega)) hF69 hk70 hk71 (by omega) (x4li_0 (Iff.mp w1 (by omega)) hr1 hA4 hz65p (fun j hj => hf66 (E0 + j) (by omega)) (by omega)) (Nat.lt_succ_self _))
    · refine ra_iconst rfl ?_
      exact ra_ireturn rfl (ra_okB (Or.inl rfl)) ⟨⟨_, (Or.inl rfl), (x4po_rd hz48p (by omega) rfl (fun x hx => x4text_2 (Iff.mp w1 (by omega)) hx)), rfl⟩, ⟨hF52, hk53, hk54, (by omega)⟩⟩
  · refine ra_load rfl rfl rfl rfl ?_
    refine ra_iconst rfl ?_
    refine ra_cQP (s4_107 (by first | omega | (unfold ra_in at *; omega))) rfl (ct_107 rfl lk_6_50 (Or.inl rfl) sh_175 (Nat.le_of_ble_eq_true rfl)) (fun z94 s93 hz94 hz94p hs93 => ?_)
    obtain ⟨hf95, hc96, he97⟩ := hs93
    have hF98 := Fr_tr (lo := 14) (hi := 177) hF41 hf95 (by omega)
    have hk99 : s93 (40) = σ (40) := (hf95 (40) (by omega)).trans hk42
    have hk100 : s93 (176) = σ (176) := hc96.trans hk43
    exact ra_ireturn rfl (ra_okB hz94) ⟨⟨_, hz94, (x4po_f (c := 1) (a := tx_a B bn 0) hz94p (x4text_1 (fun q => absurd (Iff.mpr w1 q) (by omega))) (by omega) (by omega)), rfl⟩, ⟨hF98, hk99, hk100, (by omega)⟩⟩
theorem s4_116 {n : Nat} {f : Nat → Int32} {d : Nat}  {σ : ra_V} (hci : CI σ) (hB : x4TB σ B bn) : ra_C (g_Gs n f) g_sh 0 (d + 10) 116 [.index (0)] σ (fun r9 s => r9 = .inl (some (ra_I (tx_ans (tx_text B bn)))) ∧ Fr (0) (179) σ s ∧ CI s ∧ ra_g s 175 1 = 0 ∧ ra_g s 175 2 = tx_err (tx_text B bn) ∧ ra_g s 175 3 = tx_off (tx_text B bn)) := by
  refine ra_enter (nn := 1) mt_116 rfl (Nat.le_of_ble_eq_true rfl) rfl (fun h => absurd h (by decide +kernel)) ?_
  have hB0 := hB
  obtain ⟨b1, b2, b3, b4⟩ := hB0
  refine ra_load rfl rfl rfl rfl ?_
  refine ra_getR rfl lk_7_39 (Nat.zero_le _) sh_0 rfl ?_
  refine ra_load rfl rfl rfl rfl ?_
  refine ra_getR rfl lk_7_16 (Nat.zero_le _) sh_0 rfl ?_
  refine ra_cQPs (s4_99 isD_14 rfl hB) rfl (ct_99 rfl lk_7_65 (Or.inl rfl) sh_175 (Nat.le_of_ble_eq_true rfl)) (fun z2 s1 hz2 hz2p hs1 => ?_)
  obtain ⟨hf3, hc4, hc5, he6⟩ := hs1
  have hF7 := Fr_tr (lo := 0) (hi := 179) Fr_rf hf3 (by omega)
  have hci8 : CI s1 := (by have hz := hci; unfold CI at hz ⊢; rw [ra_gk hc4]; exact hz)
  refine ra_store (L' := [_, _]) rfl rfl rfl (Nat.le_of_ble_eq_true rfl) rfl ?_
  refine ra_load rfl rfl rfl rfl ?_
  refine ra_getR rfl lk_7_39 (Nat.zero_le _) sh_0 rfl ?_
  refine ra_iconst rfl ?_
  refine ra_putI rfl lk_7_61 (Nat.zero_le _) sh_175 rfl rfl ?_
  refine ra_newU (by first | omega | (unfold ra_in at *; omega)) (fun s9 hs9 hp10 hp10o => ?_)
  have hp10_2 := hp10o 2 (by decide)
  have hp10_3 := hp10o 3 (by decide)
  have hp10_4 := hp10o 4 (by decide)
  have hp10_5 := hp10o 5 (by decide)
  have hp10_6 := hp10o 6 (by decide)
  have hp10_7 := hp10o 7 (by decide)
  have hp10_8 := hp10o 8 (by decide)
  have hp10_9 := hp10o 9 (by decide)
  have hp10_10 := hp10o 10 (by decide)
  have hp10_11 := hp10o 11 (by decide)
  have hF11 := Fr_tr (lo := 0) (hi := 179) hF7 hs9 (by omega)
  have hci12 : CI s9 := CI_fr hci8 hs9 (by omega)
  have hx2 : ra_g s9 175 2 = tx_err (tx_text B bn) := (by omega : ra_g s9 175 2 = ra_g s1 175 2).trans (x4po_2 hz2p)
  have hx3 : ra_g s9 175 3 = tx_off (tx_text B bn) := (by omega : ra_g s9 175 3 = ra_g s1 175 3).trans (x4po_3 hz2p)
  refine ra_load rfl rfl rfl rfl ?_
  refine ra_ifne rfl rfl (ra_in01 hz2) (fun h13 => ?_) (fun h13 => ?_)
  · obtain ⟨-, r1, ht1, hA1⟩ := hz2p.resolve_right (fun q => by omega)
    refine ra_load rfl rfl rfl rfl ?_
    refine ra_getR rfl lk_7_10 (Nat.zero_le _) sh_0 rfl ?_
    refine ra_load rfl rfl rfl rfl ?_
    refine ra_getR rfl lk_7_16 (Nat.zero_le _) sh_0 rfl ?_
    refine ra_cV (s4_2 isD_1 isD_14 ⟨rfl, rfl⟩) rfl (ct_2 rfl lk_7_69 (Or.inl rfl) (sh_D isD_1) (Nat.le_of_ble_eq_true rfl)) (fun s14 hs14 => ?_)
    obtain ⟨hf15, he16⟩ := hs14
    have hF17 := Fr_tr (lo := 0) (hi := 179) hF11 hf15 (by omega)
    have hci18 : CI s14 := CI_fr hci12 hf15 (by omega)
    have hk19 : s14 (175) = s9 (175) := (hf15 (175) (by omega))
    refine ra_load rfl rfl rfl rfl ?_
    refine ra_getR rfl lk_7_25 (Nat.zero_le _) sh_0 rfl ?_
    refine ra_cV (sp_64 hci18) rfl (ct_64 rfl lk_7_73 (Or.inl rfl) sh_40 (Nat.le_of_ble_eq_true rfl)) (fun s20 hs20 => ?_)
    obtain ⟨hf21, he22⟩ := hs20
    have hF23 := Fr_tr (lo := 0) (hi := 179) hF17 hf21 (by omega)
    have hci24 : CI s20 := he22
    have hk25 : s20 (175) = s9 (175) := (hf21 (175) (by omega)).trans hk19
    refine ra_load rfl rfl rfl rfl ?_
    refine ra_iconst rfl ?_
    refine ra_putB rfl lk_7_76 (Nat.zero_le _) sh_0 rfl rfl (Or.inl rfl) ?_
    refine ra_new Fr_up (fun s26 hs26 => ?_)
    have hF27 := Fr_tr (lo := 0) (hi := 179) hF23 hs26 (by omega)
    have hci28 : CI s26 := CI_fr hci24 hs26 (by omega)
    have hk29 : s26 (175) = s9 (175) := (hs26 (175) (by omega)).trans hk25
    refine ra_load rfl rfl rfl rfl ?_
    refine ra_getR rfl lk_7_46 (Nat.zero_le _) sh_0 rfl ?_
    refine ra_cV (sp_85 ) rfl (ct_85 rfl lk_7_80 (Or.inl rfl) sh_177 (Nat.le_of_ble_eq_true rfl)) (fun s30 hs30 => ?_)
    have hF31 := Fr_tr (lo := 0) (hi := 179) hF27 hs30 (by omega)
    have hci32 : CI s30 := CI_fr hci28 hs30 (by omega)
    have hk33 : s30 (175) = s9 (175) := (hs30 (175) (by omega)).trans hk29
    refine ra_load rfl rfl rfl rfl ?_
    refine ra_getR rfl lk_7_10 (Nat.zero_le _) sh_0 rfl ?_
    refine ra_cTp (s4_4 isD_1 (x4sz_cp hA1 (fun p hp => ra_gk ((hs30 (1 + 5 + p) (by omega)).trans ((hs26 (1 + 5 + p) (by omega)).trans (hf21 (1 + 5 + p) (by omega))))) he16 (fun p hp => ra_gk (hs9 (14 + 5 + p) (by omega))))) rfl (ct_4 rfl lk_7_83 (Or.inl rfl) (sh_D isD_1) (Nat.le_of_ble_eq_true rfl)) ?_
    have hr35 : ra_in ((r1 5)) := (x4SZ_in (x4sz_cp hA1 (fun p hp => ra_gk ((hs30 (1 + 5 + p) (by omega)).trans ((hs26 (1 + 5 + p) (by omega)).trans (hf21 (1 + 5 + p) (by omega))))) he16 (fun p hp => ra_gk (hs9 (14 + 5 + p) (by omega)))))
    exact ra_ireturn rfl rfl ⟨(congrArg (fun z => Sum.inl (some (ra_I z))) (x4po_y ht1)), ⟨hF31, hci32, ((ra_gk ((hs30 (175) (by omega)).trans ((hs26 (175) (by omega)).trans ((hf21 (175) (by omega)).trans (hf15 (175) (by omega)))))).trans (by omega)), ((ra_gk ((hs30 (175) (by omega)).trans ((hs26 (175) (by omega)).trans ((hf21 (175) (by omega)).trans (hf15 (175) (by omega)))))).trans hx2), ((ra_gk ((hs30 (175) (by omega)).trans ((hs26 (175) (by omega)).trans ((hf21 (175) (by omega)).trans (hf15 (175) (by omega)))))).trans hx3)⟩⟩
  · refine ra_iconst rfl ?_
    exact ra_ireturn rfl rfl ⟨(congrArg (fun z => Sum.inl (some (ra_I z))) (x4po_n hz2p (by omega))), ⟨hF11, hci12, (by omega), hx2, hx3⟩⟩
end
end
section
/-! T4: bytes that are put in -/
section
section
variable {σ s t : ra_V} {f g g2 : Nat → Int} {L i k : Nat} {w v a b c d e : Int}
theorem x4bv_sh (w : BitVec 32) (n : Nat) (hn : n ≤ 24) : (w >>> n) &&& 255#32 = (w.sshiftRight n) &&& 255#32 := by
  apply BitVec.eq_of_getLsbD_eq
  intro i hi
  rw [BitVec.getLsbD_and, BitVec.getLsbD_and, BitVec.getLsbD_ushiftRight, BitVec.getLsbD_sshiftRight]
  by_cases c : i < 8
  · have h1 : n + i < 32 := by omega
    simp [h1, Nat.not_le.mpr hi]
  · have h2 : (255#32).getLsbD i = false := by
      rw [BitVec.getLsbD_ofNat, show (255 : Nat) = 2 ^ 8 - 1 by decide, Nat.testBit_two_pow_sub_one]
      simp [c]
    rw [h2, Bool.and_false, Bool.and_false]
/-- a byte of a word: the k-th from the left -/
def x4b8 (w : Int) (k : Nat) : Int := ra_op .iand (ra_op .ishr w (24 - 8 * (k : Int))) 255
theorem x4op_i (o : Binary) (x y : Int) : Int32.ofInt (ra_op o x y) = ri_b32 o (Int32.ofInt x) (Int32.ofInt y) := Int32.ofInt_toInt _
theorem x4sh_e (w : Int) : ∀ k : Nat, k ≤ 3 → (ri_b32 .iushr (Int32.ofInt w) (Int32.ofInt (24 - 8 * (k : Int)))).toBitVec = (Int32.ofInt w).toBitVec >>> (24 - 8 * k) ∧ (ri_b32 .ishr (Int32.ofInt w) (Int32.ofInt (24 - 8 * (k : Int)))).toBitVec = (Int32.ofInt w).toBitVec.sshiftRight (24 - 8 * k)
  | 0, _ => ⟨rfl, rfl⟩
  | 1, _ => ⟨rfl, rfl⟩
  | 2, _ => ⟨rfl, rfl⟩
  | 3, _ => ⟨rfl, rfl⟩
  | k + 4, h => by omega
theorem x4b8_u (hk : k ≤ 3) (hv : v = 24 - 8 * (k : Int)) : ra_op .iand (ra_op .iushr w v) 255 = x4b8 w k := by
  subst hv
  unfold x4b8
  obtain ⟨h1, h2⟩ := x4sh_e w k hk
  show (Int32.ofInt (ra_op .iushr w (24 - 8 * (k : Int))) &&& Int32.ofInt 255).toInt = (Int32.ofInt (ra_op .ishr w (24 - 8 * (k : Int))) &&& Int32.ofInt 255).toInt
  rw [x4op_i, x4op_i]
  refine congrArg Int32.toInt (Int32.toBitVec_inj.mp ?_)
  rw [Int32.toBitVec_and, Int32.toBitVec_and, h1, h2]
  exact x4bv_sh _ _ (by omega)
theorem x4b8_s (hv : v = 24 - 8 * (k : Int)) : ra_op .iand (ra_op .ishr w v) 255 = x4b8 w k := by rw [hv]; rfl
theorem x4b8_p : 0 ≤ x4b8 w k := by
  unfold x4b8
  show 0 ≤ (Int32.ofInt (ra_op .ishr w (24 - 8 * (k : Int))) &&& Int32.ofInt 255).toInt
  generalize Int32.ofInt (ra_op .ishr w (24 - 8 * (k : Int))) = x
  show 0 ≤ (x &&& Int32.ofInt 255).toBitVec.toInt
  rw [Int32.toBitVec_and]
  have h : (x.toBitVec &&& (Int32.ofInt 255).toBitVec).toNat ≤ 255 := by
    rw [BitVec.toNat_and]
    exact Nat.and_le_right
  rw [BitVec.toInt_eq_toNat_of_lt (by omega)]
  omega
def x4ap8 (f : Nat → Int) (L : Nat) (w : Int) : Nat → Int := fun i => if i < L then f i else x4b8 w (i - L)
theorem x4ap_y (h : i < L) : x4ap8 f L w i = f i := if_pos h
theorem x4ap_n (h : ¬ i < L) : x4ap8 f L w i = x4b8 w (i - L) := if_neg h
theorem x4ap_tr (h1 : ∀ i, i < L → g i = f i) (h2 : ∀ i, i < L + 4 → g2 i = x4ap8 g L w i) : ∀ i, i < L + 4 → g2 i = x4ap8 f L w i := fun i hi => by
  rw [h2 i hi]
  by_cases c : i < L
  · rw [x4ap_y c, x4ap_y c, h1 i c]
  · rw [x4ap_n c, x4ap_n c]
def x4ap5 (f : Nat → Int) (L : Nat) (a b c d e : Int) : Nat → Int := x4ap8 (x4ap8 (x4ap8 (x4ap8 (x4ap8 f L a) (L + 4) b) (L + 8) c) (L + 12) d) (L + 16) e
theorem x4ap_5 {g1 g3 g4 g5 : Nat → Int} (h1 : ∀ i, i < L + 4 → g1 i = x4ap8 f L a i) (h2 : ∀ i, i < L + 8 → g2 i = x4ap8 g1 (L + 4) b i) (h3 : ∀ i, i < L + 12 → g3 i = x4ap8 g2 (L + 8) c i) (h4 : ∀ i, i < L + 16 → g4 i = x4ap8 g3 (L + 12) d i) (h5 : ∀ i, i < L + 20 → g5 i = x4ap8 g4 (L + 16) e i) : ∀ i, i < L + 20 → g5 i = x4ap5 f L a b c d e i :=
  x4ap_tr (L := L + 16) (x4ap_tr (L := L + 12) (x4ap_tr (L := L + 8) (x4ap_tr (L := L + 4) h1 h2) h3) h4) h5
theorem x4ap_c (h : ∀ i, i < L → f i = g i ∧ 0 ≤ f i) : ∀ i, x4ap8 f L w i = x4ap8 g L w i ∧ 0 ≤ x4ap8 f L w i := fun i => by
  by_cases c : i < L
  · rw [x4ap_y c, x4ap_y c]; exact h i c
  · rw [x4ap_n c, x4ap_n c]; exact ⟨rfl, x4b8_p⟩
theorem x4ap_5c (h : ∀ i, i < L → f i = g i ∧ 0 ≤ f i) : ∀ i, x4ap5 f L a b c d e i = x4ap5 g L a b c d e i ∧ 0 ≤ x4ap5 f L a b c d e i :=
  x4ap_c (fun i _ => x4ap_c (fun i _ => x4ap_c (fun i _ => x4ap_c (fun i _ => x4ap_c h i) i) i) i)
/-- one byte more -/
theorem x4ap_s {p : Nat} {x : Int} (h : ∀ i : Nat, i < p → g i = x4ap8 f L w i) (hp : g2 p = x) (ho : ∀ i, i ≠ p → g2 i = g i) (hL : L ≤ p) (hx : x = x4b8 w (p - L)) : ∀ i : Nat, i < p + 1 → g2 i = x4ap8 f L w i := fun i hi => by
  by_cases c : i = p
  · rw [c, hp, x4ap_n (by omega), hx]
  · rw [ho i c]; exact h i (by omega)
end
end
end
section
/-! T4: what the class's methods that read a text do (printed by wip/gen/c4.py) -/
section
variable {B : Nat → Int} {bn ps ta : Nat} {pk uv al : Int} {r : Nat → Int}
theorem l4_98_3 {n : Nat} {f : Nat → Int32} {d : Nat} {x0 : Int} {σ : ra_V} (hx0 : ra_in x0) (hl : 0 ≤ ra_g σ (175) 1 ∧ ra_g σ (175) 1 + 4 ≤ 500) : ∀ (nn : Nat) (v2 : Int) (s : ra_V) (hv2_0 : -8 ≤ v2) (hv2_1 : v2 ≤ 24) (hv2_2 : v2 % 8 = 0) (hF : Fr (175) (177) σ s) (hn : ra_g s (175) 1 * 8 = ra_g σ (175) 1 * 8 + (24 - v2)) (he : ra_g s 175 2 = ra_g σ 175 2 ∧ ra_g s 175 3 = ra_g σ 175 3) (hap : ∀ i : Nat, (i : Int) < ra_g s 175 1 → ra_g s 176 i = x4ap8 (ra_g σ 176) (ra_g σ 175 1).toNat x0 i) (hm : ((v2 + 8 : Int)).toNat < nn), ra_P (g_Gs n f) g_sh 0 (d + 0) g_m_X6_putBytes 3 [some (.index (175)), some (ra_I x0), some (ra_I v2)] [] s (fun r9 s => rV r9 ∧ Fr (175) (177) σ s ∧ ra_g s (175) 1 = ra_g σ (175) 1 + 4 ∧ (ra_g s 175 2 = ra_g σ 175 2 ∧ ra_g s 175 3 = ra_g σ 175 3) ∧ ∀ i : Nat, (i : Int) < ra_g σ 175 1 + 4 → ra_g s 176 i = x4ap8 (ra_g σ 176) (ra_g σ 175 1).toNat x0 i) := by
  intro nn
  induction nn with
  | zero => intro v2 s hv2_0 hv2_1 hv2_2 hF hn he hap hm; exact absurd hm (Nat.not_lt_zero _)
  | succ nn ih =>
    intro v2 s hv2_0 hv2_1 hv2_2 hF hn he hap hm
    refine ra_load rfl rfl rfl rfl ?_
    refine ra_iflt rfl rfl (by first | omega | (unfold ra_in at *; omega)) (fun h1 => ?_) (fun h1 => ?_)
    · exact ra_return rfl rfl ⟨rfl, ⟨hF, by omega, by omega, fun i hi => hap i (by omega)⟩⟩
    · refine ra_load rfl rfl rfl rfl ?_
      refine ra_getI rfl lk_6_22 (Nat.zero_le _) sh_175 rfl ?_
      have hr2 : ra_in (ra_g s (175) 1) := (ra_in_g _ _ _)
      refine ra_iflt rfl rfl hr2 (fun h3 => ?_) (fun h3 => ?_)
      · refine ra_iinc (L' := [_, _, _]) rfl rfl (Nat.le_of_ble_eq_true rfl) rfl ?_
        refine ra_goto rfl rfl ?_
        exact ra_weak (by repeat' constructor) (ih (v2 + (-8)) s (by first | omega | (unfold ra_in at *; omega)) (by first | omega | (unfold ra_in at *; omega)) (by first | omega | (unfold ra_in at *; omega)) hF (by first | assumption | omega) (by first | assumption | omega) (by exfalso; omega) (by first | omega | (unfold ra_in at *; omega)))
      · refine ra_load rfl rfl rfl rfl ?_
        refine ra_getI rfl lk_6_22 (Nat.zero_le _) sh_175 rfl ?_
        have hr4 : ra_in (ra_g s (175) 1) := (ra_in_g _ _ _)
        refine ra_load rfl rfl rfl rfl ?_
        refine ra_getR rfl lk_6_9 (Nat.zero_le _) sh_175 rfl ?_
        refine ra_alen rfl sh_176 rfl ?_
        refine ra_icge rfl rfl hr4 (by first | omega | (unfold ra_in at *; omega)) (fun h5 => ?_) (fun h5 => ?_)
        · refine ra_iinc (L' := [_, _, _]) rfl rfl (Nat.le_of_ble_eq_true rfl) rfl ?_
          refine ra_goto rfl rfl ?_
          exact ra_weak (by repeat' constructor) (ih (v2 + (-8)) s (by first | omega | (unfold ra_in at *; omega)) (by first | omega | (unfold ra_in at *; omega)) (by first | omega | (unfold ra_in at *; omega)) hF (by first | assumption | omega) (by first | assumption | omega) (by exfalso; omega) (by first | omega | (unfold ra_in at *; omega)))
        · refine ra_load rfl rfl rfl rfl ?_
          refine ra_getR rfl lk_6_9 (Nat.zero_le _) sh_175 rfl ?_
          refine ra_load rfl rfl rfl rfl ?_
          refine ra_getI rfl lk_6_22 (Nat.zero_le _) sh_175 rfl ?_
          have hr6 : ra_in (ra_g s (175) 1) := (ra_in_g _ _ _)
          refine ra_load rfl rfl rfl rfl ?_
          refine ra_load rfl rfl rfl rfl ?_
          refine ra_iushr rfl ?_
          refine ra_sipush rfl (by decide) ?_
          refine ra_iand rfl ?_
          refine ra_iastore rfl sh_176 rfl (by decide) (by first | omega | (unfold ra_in at *; omega)) (by first | omega | (unfold ra_in at *; omega)) ?_
          refine ra_newR (ra_in_op _ _ _) (fun s7 hs7 hs7v hs7o => ?_)
          have hF8 := Fr_tr (lo := 175) (hi := 177) hF hs7 (by omega)
          have hk9 : s7 (175) = s (175) := (hs7 (175) (by omega))
          refine ra_load rfl rfl rfl rfl ?_
          refine ra_dup rfl rfl ?_
          refine ra_getI rfl lk_6_22 (Nat.zero_le _) sh_175 rfl ?_
          rw [ra_gk hk9]
          have hr10 : ra_in (ra_g s (175) 1) := (ra_in_g _ _ _)
          refine ra_iconst rfl ?_
          refine ra_iadd rfl ?_
          refine ra_putI rfl lk_6_22 (Nat.zero_le _) sh_175 rfl rfl ?_
          refine ra_newU (by first | omega | (unfold ra_in at *; omega)) (fun s11 hs11 hp12 hp12o => ?_)
          have hp12_2 := hp12o 2 (by decide)
          rw [ra_gk hk9] at hp12_2
          have hp12_3 := hp12o 3 (by decide)
          rw [ra_gk hk9] at hp12_3
          have hF13 := Fr_tr (lo := 175) (hi := 177) hF8 hs11 (by omega)
          refine ra_iinc (L' := [_, _, _]) rfl rfl (Nat.le_of_ble_eq_true rfl) rfl ?_
          refine ra_goto rfl rfl ?_
          exact ra_weak (by repeat' constructor) (ih (v2 + (-8)) s11 (by first | omega | (unfold ra_in at *; omega)) (by first | omega | (unfold ra_in at *; omega)) (by first | omega | (unfold ra_in at *; omega)) hF13 (by first | assumption | omega) (by first | assumption | omega) (fun i hi => (ra_gk (hs11 176 (by omega))).trans (x4ap_s (p := (ra_g s 175 1).toNat) (fun i hi => hap i (by omega)) hs7v hs7o (by omega) (x4b8_u (by omega) (by omega)) i (by omega))) (by first | omega | (unfold ra_in at *; omega)))
theorem s4_98 {n : Nat} {f : Nat → Int32} {d : Nat} {x0 : Int} {σ : ra_V} (hx0 : ra_in x0) (hl : 0 ≤ ra_g σ (175) 1 ∧ ra_g σ (175) 1 + 4 ≤ 500) : ra_C (g_Gs n f) g_sh 0 (d + 1) 98 [.index (175), ra_I x0] σ (fun r9 s => rV r9 ∧ Fr (175) (177) σ s ∧ ra_g s (175) 1 = ra_g σ (175) 1 + 4 ∧ (ra_g s 175 2 = ra_g σ 175 2 ∧ ra_g s 175 3 = ra_g σ 175 3) ∧ ∀ i : Nat, (i : Int) < ra_g σ 175 1 + 4 → ra_g s 176 i = x4ap8 (ra_g σ 176) (ra_g σ 175 1).toNat x0 i) := by
  refine ra_enter (nn := 1) mt_98 rfl (Nat.le_of_ble_eq_true rfl) rfl (fun h => absurd h (by decide +kernel)) ?_
  refine ra_bipush rfl (by decide) ?_
  refine ra_store (L' := [_, _, _]) rfl rfl rfl (Nat.le_of_ble_eq_true rfl) rfl ?_
  exact ra_weak (by repeat' constructor) (l4_98_3 hx0 hl _ (24) σ (by first | omega | (unfold ra_in at *; omega)) (by first | omega | (unfold ra_in at *; omega)) (by first | omega | (unfold ra_in at *; omega)) Fr_rf (by first | assumption | omega) (by first | assumption | omega) (fun i hi => (x4ap_y (by omega)).symm) (Nat.lt_succ_self _))
end
end
section
/-! T4: what the class's methods that read a text do (printed by wip/gen/c4.py) -/
section
variable {B : Nat → Int} {bn ps ta : Nat} {pk uv al : Int} {r : Nat → Int}
theorem s4_114 {n : Nat} {f : Nat → Int32} {d : Nat} {x0 : Int} {x1 : Int} {x2 : Int} {x3 : Int} {x4 : Int} {σ : ra_V} (hx0 : ra_in x0) (hx1 : ra_in x1) (hx2 : ra_in x2) (hx3 : ra_in x3) (hx4 : ra_in x4) (hl : 0 ≤ ra_g σ (175) 1 ∧ ra_g σ (175) 1 ≤ 500) : ra_C (g_Gs n f) g_sh 0 (d + 2) 114 [.index (0), ra_I x0, ra_I x1, ra_I x2, ra_I x3, ra_I x4] σ (fun r s => r = .inl (some (ra_I (if ra_g σ (175) 1 + 20 ≤ 500 then ra_g σ (175) 1 + 20 else -1))) ∧ Fr (175) (177) σ s ∧ ra_g s (175) 1 = (if ra_g σ (175) 1 + 20 ≤ 500 then ra_g σ (175) 1 + 20 else ra_g σ (175) 1) ∧ (ra_g s 175 2 = ra_g σ 175 2 ∧ ra_g s 175 3 = ra_g σ 175 3) ∧ (ra_g σ (175) 1 + 20 ≤ 500 → ∀ i : Nat, (i : Int) < ra_g σ (175) 1 + 20 → ra_g s 176 i = x4ap5 (ra_g σ 176) (ra_g σ 175 1).toNat x0 x1 x2 x3 x4 i) ∧ (500 < ra_g σ (175) 1 + 20 → s 176 = σ 176)) := by
  refine ra_enter (nn := 0) mt_114 rfl (Nat.le_of_ble_eq_true rfl) rfl (fun h => absurd h (by decide +kernel)) ?_
  refine ra_load rfl rfl rfl rfl ?_
  refine ra_getR rfl lk_7_39 (Nat.zero_le _) sh_0 rfl ?_
  refine ra_bipush rfl (by decide) ?_
  refine ra_cTp (sp_97 (by first | omega | (unfold ra_in at *; omega)) (by first | assumption | rfl | omega)) rfl (ct_97 rfl lk_7_54 (Or.inl rfl) sh_175 (Nat.le_of_ble_eq_true rfl)) ?_
  refine ra_ifneB rfl rfl (fun h2 => ?_) (fun h2 => ?_)
  · refine ra_load rfl rfl rfl rfl ?_
    refine ra_getR rfl lk_7_39 (Nat.zero_le _) sh_0 rfl ?_
    refine ra_load rfl rfl rfl rfl ?_
    refine ra_cV (s4_98 hx0 (by first | assumption | rfl | omega)) rfl (ct_98 rfl lk_7_58 (Or.inl rfl) sh_175 (Nat.le_of_ble_eq_true rfl)) (fun s3 hs3 => ?_)
    obtain ⟨hf4, he5, he6, he7⟩ := hs3
    have hF8 := Fr_tr (lo := 175) (hi := 177) Fr_rf hf4 (by omega)
    refine ra_load rfl rfl rfl rfl ?_
    refine ra_getR rfl lk_7_39 (Nat.zero_le _) sh_0 rfl ?_
    refine ra_load rfl rfl rfl rfl ?_
    refine ra_cV (s4_98 hx1 (by first | assumption | rfl | omega)) rfl (ct_98 rfl lk_7_58 (Or.inl rfl) sh_175 (Nat.le_of_ble_eq_true rfl)) (fun s9 hs9 => ?_)
    obtain ⟨hf10, he11, he12, he13⟩ := hs9
    have hF14 := Fr_tr (lo := 175) (hi := 177) hF8 hf10 (by omega)
    refine ra_load rfl rfl rfl rfl ?_
    refine ra_getR rfl lk_7_39 (Nat.zero_le _) sh_0 rfl ?_
    refine ra_load rfl rfl rfl rfl ?_
    refine ra_cV (s4_98 hx2 (by first | assumption | rfl | omega)) rfl (ct_98 rfl lk_7_58 (Or.inl rfl) sh_175 (Nat.le_of_ble_eq_true rfl)) (fun s15 hs15 => ?_)
    obtain ⟨hf16, he17, he18, he19⟩ := hs15
    have hF20 := Fr_tr (lo := 175) (hi := 177) hF14 hf16 (by omega)
    refine ra_load rfl rfl rfl rfl ?_
    refine ra_getR rfl lk_7_39 (Nat.zero_le _) sh_0 rfl ?_
    refine ra_load rfl rfl rfl rfl ?_
    refine ra_cV (s4_98 hx3 (by first | assumption | rfl | omega)) rfl (ct_98 rfl lk_7_58 (Or.inl rfl) sh_175 (Nat.le_of_ble_eq_true rfl)) (fun s21 hs21 => ?_)
    obtain ⟨hf22, he23, he24, he25⟩ := hs21
    have hF26 := Fr_tr (lo := 175) (hi := 177) hF20 hf22 (by omega)
    refine ra_load rfl rfl rfl rfl ?_
    refine ra_getR rfl lk_7_39 (Nat.zero_le _) sh_0 rfl ?_
    refine ra_load rfl rfl rfl rfl ?_
    refine ra_cV (s4_98 hx4 (by first | assumption | rfl | omega)) rfl (ct_98 rfl lk_7_58 (Or.inl rfl) sh_175 (Nat.le_of_ble_eq_true rfl)) (fun s27 hs27 => ?_)
    obtain ⟨hf28, he29, he30, he31⟩ := hs27
    have hF32 := Fr_tr (lo := 175) (hi := 177) hF26 hf28 (by omega)
    refine ra_load rfl rfl rfl rfl ?_
    refine ra_getR rfl lk_7_39 (Nat.zero_le _) sh_0 rfl ?_
    refine ra_getI rfl lk_7_61 (Nat.zero_le _) sh_175 rfl ?_
    have hr33 : ra_in (ra_g s27 (175) 1) := (ra_in_g _ _ _)
    exact ra_ireturn rfl rfl ⟨by rw [if_pos (by omega)]; exact congrArg (fun z => Sum.inl (some (ra_I z))) (by omega), hF32, by rw [if_pos (by omega)]; omega, by omega, fun _ i hi => x4ap_5 (g1 := ra_g s3 176) (g2 := ra_g s9 176) (g3 := ra_g s15 176) (g4 := ra_g s21 176) (g5 := ra_g s27 176) (fun i hi => by have q := he7 i (by omega); rw [show (ra_g σ 175 1).toNat = (ra_g σ 175 1).toNat by omega] at q; exact q) (fun i hi => by have q := he13 i (by omega); rw [show (ra_g s3 175 1).toNat = ((ra_g σ 175 1).toNat + 4) by omega] at q; exact q) (fun i hi => by have q := he19 i (by omega); rw [show (ra_g s9 175 1).toNat = ((ra_g σ 175 1).toNat + 8) by omega] at q; exact q) (fun i hi => by have q := he25 i (by omega); rw [show (ra_g s15 175 1).toNat = ((ra_g σ 175 1).toNat + 12) by omega] at q; exact q) (fun i hi => by have q := he31 i (by omega); rw [show (ra_g s21 175 1).toNat = ((ra_g σ 175 1).toNat + 16) by omega] at q; exact q) i (by omega), fun q => by omega⟩
  · refine ra_iconst rfl ?_
    exact ra_ireturn rfl rfl ⟨by rw [if_neg (by omega)], Fr_rf, by rw [if_neg (by omega)], ⟨rfl, rfl⟩, fun q => by omega, fun _ => rfl⟩
theorem s4_115 {n : Nat} {f : Nat → Int32} {d : Nat} {x0 : Int} {σ : ra_V} (hx0 : ra_in x0) (hl : 0 ≤ ra_g σ (175) 1 ∧ ra_g σ (175) 1 ≤ 500) : ra_C (g_Gs n f) g_sh 0 (d + 1) 115 [.index (0), ra_I x0] σ (fun r s => r = .inl (some (ra_B (0 ≤ x0 ∧ x0 ≤ ra_g σ (175) 1))) ∧ Fr (175) (177) σ s ∧ ra_g s (175) 1 = (if 0 ≤ x0 ∧ x0 ≤ ra_g σ (175) 1 then x0 else ra_g σ (175) 1) ∧ (ra_g s 175 2 = ra_g σ 175 2 ∧ ra_g s 175 3 = ra_g σ 175 3) ∧ s 176 = σ 176) := by
  refine ra_enter (nn := 0) mt_115 rfl (Nat.le_of_ble_eq_true rfl) rfl (fun h => absurd h (by decide +kernel)) ?_
  refine ra_load rfl rfl rfl rfl ?_
  refine ra_iflt rfl rfl hx0 (fun h1 => ?_) (fun h1 => ?_)
  · refine ra_iconst rfl ?_
    exact ra_ireturn rfl (ra_okB (Or.inl rfl)) ⟨by unfold ra_B; rw [if_neg (by omega)], Fr_rf, by rw [if_neg (by omega)], ⟨rfl, rfl⟩, rfl⟩
  · refine ra_load rfl rfl rfl rfl ?_
    refine ra_load rfl rfl rfl rfl ?_
    refine ra_getR rfl lk_7_39 (Nat.zero_le _) sh_0 rfl ?_
    refine ra_getI rfl lk_7_61 (Nat.zero_le _) sh_175 rfl ?_
    have hr2 : ra_in (ra_g σ (175) 1) := (ra_in_g _ _ _)
    refine ra_icle rfl rfl hx0 hr2 (fun h3 => ?_) (fun h3 => ?_)
    · refine ra_load rfl rfl rfl rfl ?_
      refine ra_getR rfl lk_7_39 (Nat.zero_le _) sh_0 rfl ?_
      refine ra_load rfl rfl rfl rfl ?_
      refine ra_putI rfl lk_7_61 (Nat.zero_le _) sh_175 rfl rfl ?_
      refine ra_newU hx0 (fun s4 hs4 hp5 hp5o => ?_)
      have hp5_2 := hp5o 2 (by decide)
      have hp5_3 := hp5o 3 (by decide)
      have hF6 := Fr_tr (lo := 175) (hi := 177) Fr_rf hs4 (by omega)
      have hk7 : s4 (176) = σ (176) := (hs4 (176) (by omega))
      refine ra_iconst rfl ?_
      exact ra_ireturn rfl (ra_okB (Or.inr rfl)) ⟨by unfold ra_B; rw [if_pos (by omega)], hF6, by rw [if_pos (by omega)]; assumption, by omega, hk7⟩
    · refine ra_iconst rfl ?_
      exact ra_ireturn rfl (ra_okB (Or.inl rfl)) ⟨by unfold ra_B; rw [if_neg (by omega)], Fr_rf, by rw [if_neg (by omega)], ⟨rfl, rfl⟩, rfl⟩
theorem s4_117 {n : Nat} {f : Nat → Int32} {d : Nat}  {σ : ra_V}  : ra_C (g_Gs n f) g_sh 0 (d + 1) 117 [.index (0)] σ (fun r9 s => r9 = .inl (some (ra_I (ra_g σ 175 2))) ∧ s = σ) := by
  refine ra_enter (nn := 0) mt_117 rfl (Nat.le_of_ble_eq_true rfl) rfl (fun h => absurd h (by decide +kernel)) ?_
  refine ra_load rfl rfl rfl rfl ?_
  refine ra_getR rfl lk_7_39 (Nat.zero_le _) sh_0 rfl ?_
  refine ra_getI rfl lk_7_87 (Nat.zero_le _) sh_175 rfl ?_
  have hr1 : ra_in (ra_g σ (175) 2) := (ra_in_g _ _ _)
  exact ra_ireturn rfl rfl ⟨(congrArg (fun z => Sum.inl (some (ra_I z))) rfl), rfl⟩
theorem s4_118 {n : Nat} {f : Nat → Int32} {d : Nat}  {σ : ra_V}  : ra_C (g_Gs n f) g_sh 0 (d + 1) 118 [.index (0)] σ (fun r9 s => r9 = .inl (some (ra_I (ra_g σ 175 3))) ∧ s = σ) := by
  refine ra_enter (nn := 0) mt_118 rfl (Nat.le_of_ble_eq_true rfl) rfl (fun h => absurd h (by decide +kernel)) ?_
  refine ra_load rfl rfl rfl rfl ?_
  refine ra_getR rfl lk_7_39 (Nat.zero_le _) sh_0 rfl ?_
  refine ra_getI rfl lk_7_90 (Nat.zero_le _) sh_175 rfl ?_
  have hr1 : ra_in (ra_g σ (175) 3) := (ra_in_g _ _ _)
  exact ra_ireturn rfl rfl ⟨(congrArg (fun z => Sum.inl (some (ra_I z))) rfl), rfl⟩
end
end
section
/-! T4: the reference's tokens, what it reads -/
section
section
variable {σ s t : ra_V} {B : Nat → Int} {bn n a i k D p e : Nat} {pk x y v z w lo hi lo2 hi2 c : Int} {r : Nat → Int} {u : Int × Nat}
/-- the reference's bytes -/
def x4TR (σ : ra_V) (B : Nat → Int) (bn : Nat) : Prop := ra_g σ 179 12 = bn ∧ bn ≤ 500 ∧ (∀ i, i < bn → B i = ra_g σ 187 i ∧ 0 ≤ B i) ∧ ∀ i, bn ≤ i → B i = -1
theorem x4TR_k (h1 : ra_g s 179 12 = ra_g σ 179 12) (h2 : s 187 = σ 187) (h : x4TR σ B bn) : x4TR s B bn := by
  obtain ⟨a, b, c, d⟩ := h
  exact ⟨h1.trans a, b, fun i hi => by rw [ra_gk h2]; exact c i hi, d⟩
theorem x4TR_y (h : x4TR σ B bn) (h0 : 0 ≤ x) (h1 : x < bn) : ra_g σ 187 x.toNat = B x.toNat := ((h.2.2.1 x.toNat (by omega)).1).symm
theorem x4TR_n (h : x4TR σ B bn) (h1 : (bn : Int) ≤ x) : -1 = B x.toNat := (h.2.2.2 x.toNat (by omega)).symm
theorem x4TR_in (h : x4TR σ B bn) : ra_in (B i) := by
  by_cases c : i < bn
  · rw [(h.2.2.1 i c).1]; exact ra_in_g _ _ _
  · rw [h.2.2.2 i (by omega)]; unfold ra_in; omega
theorem x4TR_e (h : x4TR σ B bn) (hb : B i = -1) : bn ≤ i := by
  by_cases c : i < bn
  · have := (h.2.2.1 i c).2
    omega
  · omega
theorem x4TR_l (h : x4TR σ B bn) (hb : B i ≠ -1) : i < bn := by
  by_cases c : i < bn
  · exact c
  · exact absurd (h.2.2.2 i (by omega)) hb
/-- the reference stands at the token that begins at a -/
def x4RTK (B : Nat → Int) (bn : Nat) (s : ra_V) (a : Nat) : Prop := ra_g s 179 18 = (a : Nat) ∧ ra_g s 179 17 = (tx_e B bn a : Nat) ∧ ra_g s 179 20 = tx_k B bn a ∧ (tx_k B bn a = 2 → ra_g s 179 19 = tx_val B bn a) ∧ a ≤ bn ∧ a ≤ tx_e B bn a ∧ tx_e B bn a ≤ bn
theorem x4RTK_k (h17 : ra_g s 179 17 = ra_g σ 179 17) (h18 : ra_g s 179 18 = ra_g σ 179 18) (h19 : ra_g s 179 19 = ra_g σ 179 19) (h20 : ra_g s 179 20 = ra_g σ 179 20) (h : x4RTK B bn σ a) : x4RTK B bn s a := by
  obtain ⟨h1, h2, h3, h4, h5, h6, h7⟩ := h
  exact ⟨by omega, by omega, by omega, fun q => by have := h4 q; omega, h5, h6, h7⟩
theorem x4rtk_0 (hs : ra_g s 179 18 = (a : Nat)) (hp : ra_g s 179 17 = (a : Nat)) (ht : ra_g s 179 20 = 0) (h : bn ≤ a) (h2 : a ≤ bn) : x4RTK B bn s a := by
  have e1 := x4tk_0 (B := B) h
  have e2 := x4te_0 (B := B) h
  exact ⟨hs, by omega, by omega, fun q => by omega, h2, by omega, by omega⟩
theorem x4rtk_w (hs : ra_g s 179 18 = (a : Nat)) (hp : ra_g s 179 17 = (tx_sp tx_le B bn a : Nat)) (ht : ra_g s 179 20 = 1) (h : a < bn) (hl : tx_le (B a) = true) : x4RTK B bn s a := by
  have e1 := x4tk_1 h hl
  have e2 := x4te_1 h hl
  have e3 := x4te_le (B := B) (Nat.le_of_lt h)
  exact ⟨hs, by omega, by omega, fun q => by omega, by omega, by omega, by omega⟩
theorem x4rtk_1 (hs : ra_g s 179 18 = (a : Nat)) (hp : ra_g s 179 17 = (a : Nat) + 1) (h : a < bn) (hl : tx_le (B a) = false) (hd : tx_di (B a) = false) (ht : (B a = 59 → ra_g s 179 20 = 3) ∧ (B a ≠ 59 → ra_g s 179 20 = 4)) : x4RTK B bn s a := by
  have e1 := x4tk_3 h hl hd
  have e2 := x4te_3 h hl hd
  have e4 : tx_k B bn a = ra_g s 179 20 := by
    rw [e1]
    split
    · next q => exact (ht.1 q).symm
    · next q => exact (ht.2 q).symm
  have e5 : tx_k B bn a ≠ 2 := by
    rw [e1]
    split <;> omega
  exact ⟨hs, by omega, e4.symm, fun q => absurd q e5, by omega, by omega, by omega⟩
theorem x4rtk_n (hs : ra_g s 179 18 = (a : Nat)) (hp : ra_g s 179 17 = (tx_sp tx_di B bn a : Nat)) (h : a < bn) (hl : tx_le (B a) = false) (hd : tx_di (B a) = true) (ht : ra_g s 179 20 = 2) (hv : ra_g s 179 19 = tx_v B a (Nat.min 3 (tx_sp tx_di B bn a - a))) : x4RTK B bn s a := by
  have e1 := x4tk_2 h hl hd
  have e2 := x4te_2 h hl hd
  have e3 := x4te_le (B := B) (Nat.le_of_lt h)
  refine ⟨hs, by omega, by omega, fun _ => ?_, by omega, by omega, by omega⟩
  unfold tx_val
  rw [e2]
  exact hv
/-- where the token read at i ends -/
def x4tx_n (B : Nat → Int) (n i : Nat) : Nat := tx_e B n (tx_a B n i)
theorem x4rd_y (h : tx_k B n (tx_a B n i) = 2 ∧ tx_e B n (tx_a B n i) - tx_a B n i ≤ 3) (h2 : lo ≤ tx_val B n (tx_a B n i) ∧ tx_val B n (tx_a B n i) ≤ hi) : tx_rd B n i lo hi = .inr (tx_val B n (tx_a B n i), x4tx_n B n i) := by unfold tx_rd; rw [if_pos h, if_pos h2]; rfl
theorem x4rd_o (h : tx_k B n (tx_a B n i) = 2 ∧ tx_e B n (tx_a B n i) - tx_a B n i ≤ 3) (h2 : ¬ (lo ≤ tx_val B n (tx_a B n i) ∧ tx_val B n (tx_a B n i) ≤ hi)) : tx_rd B n i lo hi = .inl (2, tx_a B n i) := by unfold tx_rd; rw [if_pos h, if_neg h2]
theorem x4rd_x (h : ¬ (tx_k B n (tx_a B n i) = 2 ∧ tx_e B n (tx_a B n i) - tx_a B n i ≤ 3)) : tx_rd B n i lo hi = .inl (1, tx_a B n i) := by unfold tx_rd; rw [if_neg h]
/-- the same token in other bounds -/
theorem x4rd_c {e : Nat} (h : tx_rd B n i lo hi = .inr (v, e)) : (lo2 ≤ v ∧ v ≤ hi2 → tx_rd B n i lo2 hi2 = .inr (v, x4tx_n B n i)) ∧ (¬ (lo2 ≤ v ∧ v ≤ hi2) → tx_rd B n i lo2 hi2 = .inl (2, tx_a B n i)) ∧ e = x4tx_n B n i := by
  by_cases c : tx_k B n (tx_a B n i) = 2 ∧ tx_e B n (tx_a B n i) - tx_a B n i ≤ 3
  · by_cases d : lo ≤ tx_val B n (tx_a B n i) ∧ tx_val B n (tx_a B n i) ≤ hi
    · rw [x4rd_y c d] at h
      cases h
      exact ⟨fun q => x4rd_y c q, fun q => x4rd_o c q, rfl⟩
    · rw [x4rd_o c d] at h; cases h
  · rw [x4rd_x c] at h; cases h
theorem x4rd_nw (h : tx_rd B n i lo hi = .inl u) (h1 : lo ≤ lo2) (h2 : hi2 ≤ hi) : tx_rd B n i lo2 hi2 = .inl u := by
  by_cases c : tx_k B n (tx_a B n i) = 2 ∧ tx_e B n (tx_a B n i) - tx_a B n i ≤ 3
  · by_cases d : lo ≤ tx_val B n (tx_a B n i) ∧ tx_val B n (tx_a B n i) ≤ hi
    · rw [x4rd_y c d] at h; cases h
    · rw [x4rd_o c d] at h; cases h
      exact x4rd_o c (fun q => d ⟨by omega, by omega⟩)
  · rw [x4rd_x c] at h; cases h
    exact x4rd_x c
/-- a number seen -/
def x4RNM (B : Nat → Int) (bn : Nat) (σ s : ra_V) (z : Int) (i : Nat) (lo hi : Int) : Prop :=
  (z = 1 ∧ tx_rd B bn i lo hi = .inr (ra_g σ 179 19, x4tx_n B bn i) ∧ lo ≤ ra_g σ 179 19 ∧ ra_g σ 179 19 ≤ hi ∧ ra_g s 179 15 = 0 ∧ ra_g s 179 16 = ra_g σ 179 16) ∨
  (z = 0 ∧ ∃ c : Int, tx_rd B bn i lo hi = .inl (c, tx_a B bn i) ∧ ra_g s 179 15 = c ∧ ra_g s 179 16 = (tx_a B bn i : Nat))
theorem x4rn_1 (hK : x4RTK B bn σ (tx_a B bn i)) (h : ra_g σ 179 20 ≠ 2 ∨ 3 < ra_g σ 179 17 - ra_g σ 179 18) (hz : z = 0) (h2 : ra_g s 179 15 = 1 ∧ ra_g s 179 16 = ra_g σ 179 18) : x4RNM B bn σ s z i lo hi := by
  obtain ⟨k1, k2, k3, k4, k5, k6, k7⟩ := hK
  exact Or.inr ⟨hz, 1, x4rd_x (by omega), h2.1, by omega⟩
theorem x4rn_2 (hK : x4RTK B bn σ (tx_a B bn i)) (h : ra_g σ 179 20 = 2 ∧ ra_g σ 179 17 - ra_g σ 179 18 ≤ 3) (hv : ¬ (lo ≤ ra_g σ 179 19 ∧ ra_g σ 179 19 ≤ hi)) (hz : z = 0) (h2 : ra_g s 179 15 = 2 ∧ ra_g s 179 16 = ra_g σ 179 18) : x4RNM B bn σ s z i lo hi := by
  obtain ⟨k1, k2, k3, k4, k5, k6, k7⟩ := hK
  have e := k4 (by omega)
  exact Or.inr ⟨hz, 2, x4rd_o (by omega) (by omega), h2.1, by omega⟩
theorem x4rn_y (hK : x4RTK B bn σ (tx_a B bn i)) (h : ra_g σ 179 20 = 2 ∧ ra_g σ 179 17 - ra_g σ 179 18 ≤ 3) (hv : lo ≤ ra_g σ 179 19 ∧ ra_g σ 179 19 ≤ hi) (hz : z = 1) (h2 : ra_g s 179 15 = 0 ∧ ra_g s 179 16 = ra_g σ 179 16) : x4RNM B bn σ s z i lo hi := by
  obtain ⟨k1, k2, k3, k4, k5, k6, k7⟩ := hK
  have e := k4 (by omega)
  refine Or.inl ⟨hz, ?_, hv.1, hv.2, h2.1, h2.2⟩
  rw [e]
  exact x4rd_y (by omega) (by omega)
/-- a number taken -/
def x4RTA (B : Nat → Int) (bn : Nat) (σ s : ra_V) (z : Int) (i j : Nat) (lo hi : Int) : Prop :=
  (z = 1 ∧ tx_rd B bn i lo hi = .inr (ra_g s 188 j, x4tx_n B bn i) ∧ x4RTK B bn s (tx_a B bn (x4tx_n B bn i)) ∧ lo ≤ ra_g s 188 j ∧ ra_g s 188 j ≤ hi ∧ ra_g s 179 15 = 0 ∧ ra_g s 179 16 = ra_g σ 179 16) ∨
  (z = 0 ∧ ∃ c : Int, tx_rd B bn i lo hi = .inl (c, tx_a B bn i) ∧ ra_g s 179 15 = c ∧ ra_g s 179 16 = (tx_a B bn i : Nat))
theorem x4ta_n {j : Nat} (h : x4RNM B bn σ s w i lo hi) (hw : w = 0) (hz : z = 0) : x4RTA B bn σ s z i j lo hi := by
  rcases h with ⟨q, -⟩ | ⟨-, c, h1, h2, h3⟩
  · omega
  · exact Or.inr ⟨hz, c, h1, h2, h3⟩
theorem x4ta_y {j : Nat} (h : x4RNM B bn σ t w i lo hi) (hw : w ≠ 0) (hz : z = 1) (h19 : ra_g s 188 j = ra_g σ 179 19) (hK : x4RTK B bn s (tx_a B bn (x4tx_n B bn i))) (h5 : ra_g s 179 15 = ra_g t 179 15 ∧ ra_g s 179 16 = ra_g t 179 16) : x4RTA B bn σ s z i j lo hi := by
  rcases h with ⟨-, h1, h2, h3, h4, h6⟩ | ⟨q, -⟩
  · refine Or.inl ⟨hz, by rw [h19]; exact h1, hK, by omega, by omega, by omega, by omega⟩
  · omega
/-- a semicolon passed -/
def x4RSE (B : Nat → Int) (bn : Nat) (σ s : ra_V) (z : Int) (i : Nat) : Prop :=
  (z = 1 ∧ tx_semi B bn i = .inr (x4tx_n B bn i) ∧ x4RTK B bn s (tx_a B bn (x4tx_n B bn i)) ∧ x4tx_n B bn i ≤ bn ∧ ra_g s 179 15 = 0 ∧ ra_g s 179 16 = ra_g σ 179 16) ∨
  (z = 0 ∧ ∃ (c : Int) (a : Nat), tx_semi B bn i = .inl (c, a) ∧ ra_g s 179 15 = c ∧ ra_g s 179 16 = (a : Nat))
theorem x4se_n (hK : x4RTK B bn σ (tx_a B bn i)) (h : ra_g σ 179 20 ≠ 3) (hz : z = 0) (h2 : ra_g s 179 15 = 1 ∧ ra_g s 179 16 = ra_g σ 179 18) : x4RSE B bn σ s z i := by
  obtain ⟨k1, k2, k3, k4, k5, k6, k7⟩ := hK
  refine Or.inr ⟨hz, 1, tx_a B bn i, ?_, h2.1, by omega⟩
  unfold tx_semi
  rw [if_neg (by omega)]
theorem x4se_y (hK : x4RTK B bn σ (tx_a B bn i)) (h : ra_g σ 179 20 = 3) (hz : z = 1) (hK2 : x4RTK B bn s (tx_a B bn (x4tx_n B bn i))) (h5 : ra_g s 179 15 = 0 ∧ ra_g s 179 16 = ra_g σ 179 16) : x4RSE B bn σ s z i := by
  obtain ⟨k1, k2, k3, k4, k5, k6, k7⟩ := hK
  refine Or.inl ⟨hz, ?_, hK2, k7, h5.1, h5.2⟩
  unfold tx_semi
  rw [if_pos (by omega)]
  rfl
/-- what a text has made so far: the reference's row -/
def x4RR (r : Nat → Int) (σ : ra_V) : Prop := (ra_g σ 180 0 = r 0 ∧ ra_g σ 180 1 = r 1 ∧ ra_g σ 180 2 = r 2 ∧ ra_g σ 180 3 = r 3 ∧ ra_g σ 180 4 = r 4 ∧ ra_g σ 180 5 = r 5) ∧
  ra_g σ 179 21 = r 101 + 2 * r 102 + 4 * r 103 + 8 * r 104 ∧ ((r 101 = 0 ∨ r 101 = 1) ∧ (r 102 = 0 ∨ r 102 = 1) ∧ (r 103 = 0 ∨ r 103 = 1) ∧ (r 104 = 0 ∨ r 104 = 1)) ∧
  (ra_g σ 179 15 = 0 ∧ ra_g σ 179 16 = -1) ∧ ∀ p : Nat, p < 8 → (p : Int) < r 5 → ra_g σ 180 (25 + 8 * p) = r (25 + 8 * p) ∧ ra_g σ 180 (26 + 8 * p) = r (26 + 8 * p) ∧ ra_g σ 180 (29 + 8 * p) = r (29 + 8 * p)
theorem x4RR_k (h : s 180 = σ 180) (h5 : ra_g s 179 15 = ra_g σ 179 15 ∧ ra_g s 179 16 = ra_g σ 179 16 ∧ ra_g s 179 21 = ra_g σ 179 21) (q : x4RR r σ) : x4RR r s := by
  obtain ⟨a1, a2, a3, a4, a5⟩ := q
  refine ⟨?_, by omega, a3, by omega, fun p hp hq => ?_⟩
  · rw [ra_gk h, ra_gk h, ra_gk h, ra_gk h, ra_gk h, ra_gk h]; exact a1
  · rw [ra_gk h, ra_gk h, ra_gk h]; exact a5 p hp hq
theorem x4had_i {x a b c d : Int} (h : x = a + 2 * b + 4 * c + 8 * d) (ha : a = 0 ∨ a = 1) (hb : b = 0 ∨ b = 1) (hc : c = 0 ∨ c = 1) (hd : d = 0 ∨ d = 1) : ra_op .iand x 1 = a ∧ ra_op .iand x 2 = 2 * b ∧ ra_op .iand x 4 = 4 * c ∧ ra_op .iand x 8 = 8 * d ∧ (a = 0 → ra_op .ior x 1 = x + 1) ∧ (b = 0 → ra_op .ior x 2 = x + 2) ∧ (c = 0 → ra_op .ior x 4 = x + 4) ∧ (d = 0 → ra_op .ior x 8 = x + 8) := by
  subst h
  rcases ha with rfl | rfl <;> rcases hb with rfl | rfl <;> rcases hc with rfl | rfl <;> rcases hd with rfl | rfl <;> decide +kernel
/-- what a piece of a text comes to: the reference -/
def x4ROC (B : Nat → Int) (bn : Nat) (s : ra_V) (z : Int) (o : Sum (Int × Nat) ((Nat → Int) × Nat)) : Prop :=
  (z = 1 ∧ ∃ (r : Nat → Int) (e : Nat), o = .inr (r, e) ∧ x4RR r s ∧ x4RTK B bn s (tx_a B bn e) ∧ e ≤ bn) ∨ (z = 0 ∧ ∃ (c : Int) (a : Nat), o = .inl (c, a) ∧ ra_g s 179 15 = c ∧ ra_g s 179 16 = (a : Nat))
section
variable {o : Sum (Int × Nat) ((Nat → Int) × Nat)}
theorem x4ro_f (hz : z = 0) (ho : o = .inl (c, a)) (h2 : ra_g s 179 15 = c) (h3 : ra_g s 179 16 = (a : Nat)) : x4ROC B bn s z o := Or.inr ⟨hz, c, a, ho, h2, h3⟩
theorem x4ro_y (hz : z = 1) (ho : o = .inr (r, e)) (hR : x4RR r s) (hK : x4RTK B bn s (tx_a B bn e)) (he : e ≤ bn) : x4ROC B bn s z o := Or.inl ⟨hz, r, e, ho, hR, hK, he⟩
theorem x4ro_n (h : x4RNM B bn σ s w i lo hi) (hw : w = 0) (hz : z = 0) (ho : ∀ x, tx_rd B bn i lo hi = .inl x → o = .inl x) : x4ROC B bn s z o := by
  rcases h with ⟨q, -⟩ | ⟨-, c, h1, h2, h3⟩
  · omega
  · exact x4ro_f hz (ho _ h1) h2 h3
theorem x4ro_t {j : Nat} (h : x4RTA B bn σ s w i j lo hi) (hw : w = 0) (hz : z = 0) (ho : ∀ x, tx_rd B bn i lo hi = .inl x → o = .inl x) : x4ROC B bn s z o := by
  rcases h with ⟨q, -⟩ | ⟨-, c, h1, h2, h3⟩
  · omega
  · exact x4ro_f hz (ho _ h1) h2 h3
end
theorem x4n_le (h : i ≤ bn) : x4tx_n B bn i ≤ bn := by
  have h1 : tx_a B bn i ≤ bn := (tx_sp_le (P := tx_bl) (B := B) (n := bn) (i := i)).2 h
  exact (x4te_le (B := B) h1).2
theorem x4RTK_n (h : x4RTK B bn σ (tx_a B bn i)) : x4tx_n B bn i ≤ bn := h.2.2.2.2.2.2
/-! a setting -/
section
variable {x0 x1 x2 x3 : Int}
theorem x4rs_h (hst : (x0 = 1 ∧ x1 = 1 ∧ x2 = 0 ∧ x3 = 31) ∨ (x0 = 2 ∧ x1 = 2 ∧ x2 = 0 ∧ x3 = 31) ∨ (x0 = 3 ∧ x1 = 4 ∧ x2 = 1 ∧ x3 = 32) ∨ (x0 = 4 ∧ x1 = 8 ∧ x2 = 1 ∧ x3 = 16)) (hR : x4RR r σ) : (ra_op .iand (ra_g σ 179 21) x1 ≠ 0 → r (100 + x0.toNat) = 1) ∧ (ra_op .iand (ra_g σ 179 21) x1 = 0 → r (100 + x0.toNat) = 0 ∧ ra_op .ior (ra_g σ 179 21) x1 = ra_g σ 179 21 + x1) ∧ 0 ≤ ra_g σ 179 21 ∧ ra_g σ 179 21 ≤ 15 := by
  obtain ⟨a1, a2, ⟨f1, f2, f3, f4⟩, a4, a5⟩ := hR
  obtain ⟨b1, b2, b3, b4, c1, c2, c3, c4⟩ := x4had_i a2 f1 f2 f3 f4
  rcases hst with ⟨rfl, rfl, -, -⟩ | ⟨rfl, rfl, -, -⟩ | ⟨rfl, rfl, -, -⟩ | ⟨rfl, rfl, -, -⟩
  · exact ⟨fun q => (by omega : r 101 = 1), fun q => ⟨(by omega : r 101 = 0), c1 (by omega)⟩, by omega, by omega⟩
  · exact ⟨fun q => (by omega : r 102 = 1), fun q => ⟨(by omega : r 102 = 0), c2 (by omega)⟩, by omega, by omega⟩
  · exact ⟨fun q => (by omega : r 103 = 1), fun q => ⟨(by omega : r 103 = 0), c3 (by omega)⟩, by omega, by omega⟩
  · exact ⟨fun q => (by omega : r 104 = 1), fun q => ⟨(by omega : r 104 = 0), c4 (by omega)⟩, by omega, by omega⟩
theorem x4RR_set (hst : (x0 = 1 ∧ x1 = 1 ∧ x2 = 0 ∧ x3 = 31) ∨ (x0 = 2 ∧ x1 = 2 ∧ x2 = 0 ∧ x3 = 31) ∨ (x0 = 3 ∧ x1 = 4 ∧ x2 = 1 ∧ x3 = 32) ∨ (x0 = 4 ∧ x1 = 8 ∧ x2 = 1 ∧ x3 = 16)) (hR : x4RR r σ) (h0 : r (100 + x0.toNat) = 0) (h21 : ra_g s 179 21 = ra_g σ 179 21 + x1) (h5 : ra_g s 179 15 = ra_g σ 179 15 ∧ ra_g s 179 16 = ra_g σ 179 16) (hv : ra_g s 180 x0.toNat = v) (ho : ∀ j, j ≠ x0.toNat → ra_g s 180 j = ra_g σ 180 j) : x4RR (tx_up (tx_up r x0.toNat v) (100 + x0.toNat) 1) s := by
  obtain ⟨⟨a0, a1, a2, a3, a4, a5⟩, b, ⟨f1, f2, f3, f4⟩, c, d⟩ := hR
  have f : ∀ j : Nat, j ≠ x0.toNat → j ≠ 100 + x0.toNat → tx_up (tx_up r x0.toNat v) (100 + x0.toNat) 1 j = r j := fun j h1 h2 => by rw [x4up_n h2, x4up_n h1]
  have g1 : tx_up (tx_up r x0.toNat v) (100 + x0.toNat) 1 x0.toNat = v := by rw [x4up_n (by omega), x4up_y]
  have g2 : tx_up (tx_up r x0.toNat v) (100 + x0.toNat) 1 (100 + x0.toNat) = 1 := x4up_y
  have hw : x0.toNat < 5 := by omega
  have e5 : tx_up (tx_up r x0.toNat v) (100 + x0.toNat) 1 5 = r 5 := f 5 (by omega) (by omega)
  refine ⟨?_, ?_, ?_, by omega, fun p hp hq => ?_⟩
  · have k : ∀ j : Nat, j ≤ 5 → ra_g σ 180 j = r j → ra_g s 180 j = tx_up (tx_up r x0.toNat v) (100 + x0.toNat) 1 j := fun j hj q => by
      by_cases e : j = x0.toNat
      · rw [e, g1]; exact hv
      · rw [f j e (by omega), ho j e]; exact q
    exact ⟨k 0 (by omega) a0, k 1 (by omega) a1, k 2 (by omega) a2, k 3 (by omega) a3, k 4 (by omega) a4, k 5 (by omega) a5⟩
  · rcases hst with ⟨rfl, rfl, -, -⟩ | ⟨rfl, rfl, -, -⟩ | ⟨rfl, rfl, -, -⟩ | ⟨rfl, rfl, -, -⟩
    · rw [show tx_up (tx_up r (1 : Int).toNat v) (100 + (1 : Int).toNat) 1 101 = 1 from g2, f 102 (by decide) (by decide), f 103 (by decide) (by decide), f 104 (by decide) (by decide)]
      have h0 : r 101 = 0 := h0
      omega
    · rw [show tx_up (tx_up r (2 : Int).toNat v) (100 + (2 : Int).toNat) 1 102 = 1 from g2, f 101 (by decide) (by decide), f 103 (by decide) (by decide), f 104 (by decide) (by decide)]
      have h0 : r 102 = 0 := h0
      omega
    · rw [show tx_up (tx_up r (3 : Int).toNat v) (100 + (3 : Int).toNat) 1 103 = 1 from g2, f 101 (by decide) (by decide), f 102 (by decide) (by decide), f 104 (by decide) (by decide)]
      have h0 : r 103 = 0 := h0
      omega
    · rw [show tx_up (tx_up r (4 : Int).toNat v) (100 + (4 : Int).toNat) 1 104 = 1 from g2, f 101 (by decide) (by decide), f 102 (by decide) (by decide), f 103 (by decide) (by decide)]
      have h0 : r 104 = 0 := h0
      omega
  · rcases hst with ⟨rfl, rfl, -, -⟩ | ⟨rfl, rfl, -, -⟩ | ⟨rfl, rfl, -, -⟩ | ⟨rfl, rfl, -, -⟩
    · rw [show tx_up (tx_up r (1 : Int).toNat v) (100 + (1 : Int).toNat) 1 101 = 1 from g2, f 102 (by decide) (by decide), f 103 (by decide) (by decide), f 104 (by decide) (by decide)]
      exact ⟨Or.inr rfl, f2, f3, f4⟩
    · rw [show tx_up (tx_up r (2 : Int).toNat v) (100 + (2 : Int).toNat) 1 102 = 1 from g2, f 101 (by decide) (by decide), f 103 (by decide) (by decide), f 104 (by decide) (by decide)]
      exact ⟨f1, Or.inr rfl, f3, f4⟩
    · rw [show tx_up (tx_up r (3 : Int).toNat v) (100 + (3 : Int).toNat) 1 103 = 1 from g2, f 101 (by decide) (by decide), f 102 (by decide) (by decide), f 104 (by decide) (by decide)]
      exact ⟨f1, f2, Or.inr rfl, f4⟩
    · rw [show tx_up (tx_up r (4 : Int).toNat v) (100 + (4 : Int).toNat) 1 104 = 1 from g2, f 101 (by decide) (by decide), f 102 (by decide) (by decide), f 103 (by decide) (by decide)]
      exact ⟨f1, f2, f3, Or.inr rfl⟩
  · rw [e5] at hq
    rw [f (25 + 8 * p) (by omega) (by omega), f (26 + 8 * p) (by omega) (by omega), f (29 + 8 * p) (by omega) (by omega), ho (25 + 8 * p) (by omega), ho (26 + 8 * p) (by omega), ho (29 + 8 * p) (by omega)]
    exact d p hp hq
end
theorem x4RR_lock {j : Nat} (hj : j < 8) (hv : (j : Int) < r 5) (hR : x4RR r σ) (hl : ra_g s 180 (29 + 8 * j) = 1) (ho : ∀ a, a ≠ 29 + 8 * j → ra_g s 180 a = ra_g σ 180 a) (h5 : ra_g s 179 15 = ra_g σ 179 15 ∧ ra_g s 179 16 = ra_g σ 179 16 ∧ ra_g s 179 21 = ra_g σ 179 21) : x4RR (tx_up r (29 + 8 * j) 1) s := by
  obtain ⟨⟨a0, a1, a2, a3, a4, a5⟩, b, f0, c, d⟩ := hR
  have f : ∀ i : Nat, i ≠ 29 + 8 * j → tx_up r (29 + 8 * j) 1 i = r i := fun i h1 => x4up_n h1
  refine ⟨?_, ?_, ?_, by omega, fun p hp hq => ?_⟩
  · rw [f 0 (by omega), f 1 (by omega), f 2 (by omega), f 3 (by omega), f 4 (by omega), f 5 (by omega), ho 0 (by omega), ho 1 (by omega), ho 2 (by omega), ho 3 (by omega), ho 4 (by omega), ho 5 (by omega)]
    exact ⟨a0, a1, a2, a3, a4, a5⟩
  · rw [f 101 (by omega), f 102 (by omega), f 103 (by omega), f 104 (by omega)]; omega
  · rw [f 101 (by omega), f 102 (by omega), f 103 (by omega), f 104 (by omega)]; exact f0
  · rw [f 5 (by omega)] at hq
    have q := d p hp hq
    rw [f (25 + 8 * p) (by omega), f (26 + 8 * p) (by omega), ho (25 + 8 * p) (by omega), ho (26 + 8 * p) (by omega)]
    by_cases e : p = j
    · subst e
      rw [x4up_y, hl]
      exact ⟨q.1, q.2.1, rfl⟩
    · rw [f (29 + 8 * p) (by omega), ho (29 + 8 * p) (by omega)]
      exact q
theorem x4RR_mk {st sz kd mn : Int} (hR : x4RR r σ) (h5 : 0 ≤ r 5 ∧ r 5 < 8) (hm : z = r 5 ∧ wq s z 1 = st ∧ wq s z 2 = sz ∧ wq s z 5 = 0 ∧ ra_g s 180 5 = r 5 + 1) (ho : ∀ a : Nat, a < 88 → a ≠ 5 → ¬ (24 + 8 * z ≤ (a : Int) ∧ (a : Int) < 24 + 8 * z + 8) → ra_g s 180 a = ra_g σ 180 a) (h15 : ra_g s 179 15 = ra_g σ 179 15 ∧ ra_g s 179 16 = ra_g σ 179 16 ∧ ra_g s 179 21 = ra_g σ 179 21) : x4RR (tx_mk r st sz kd mn) s := by
  obtain ⟨⟨a0, a1, a2, a3, a4, a5⟩, b, f0, c, d⟩ := hR
  obtain ⟨rfl, m1, m2, m3, m4⟩ := hm
  have f : ∀ j : Nat, (j < 5 ∨ 88 ≤ j) → tx_mk r st sz kd mn j = r j := fun j hj => by
    unfold tx_mk
    rw [if_neg (by omega), if_neg (by omega), if_neg (by omega), if_neg (by omega), if_neg (by omega), if_neg (by omega), if_neg (by omega), if_neg (by omega), if_neg (by omega)]
  have f5 : tx_mk r st sz kd mn 5 = r 5 + 1 := by unfold tx_mk; rw [if_pos rfl]
  have o : ∀ j : Nat, j < 5 → ra_g s 180 j = ra_g σ 180 j := fun j hj => ho j (by omega) (by omega) (by omega)
  refine ⟨?_, ?_, ?_, by omega, fun p hp hq => ?_⟩
  · rw [f 0 (by omega), f 1 (by omega), f 2 (by omega), f 3 (by omega), f 4 (by omega), f5, o 0 (by omega), o 1 (by omega), o 2 (by omega), o 3 (by omega), o 4 (by omega)]
    exact ⟨a0, a1, a2, a3, a4, m4⟩
  · rw [f 101 (by omega), f 102 (by omega), f 103 (by omega), f 104 (by omega)]; omega
  · rw [f 101 (by omega), f 102 (by omega), f 103 (by omega), f 104 (by omega)]; exact f0
  · rw [f5] at hq
    by_cases e : p = (r 5).toNat
    · subst e
      have g1 : tx_mk r st sz kd mn (25 + 8 * (r 5).toNat) = st := by unfold tx_mk; rw [if_neg (by omega), if_neg (by omega), if_pos rfl]
      have g2 : tx_mk r st sz kd mn (26 + 8 * (r 5).toNat) = sz := by unfold tx_mk; rw [if_neg (by omega), if_neg (by omega), if_neg (by omega), if_pos rfl]
      have g3 : tx_mk r st sz kd mn (29 + 8 * (r 5).toNat) = 0 := by unfold tx_mk; rw [if_neg (by omega), if_neg (by omega), if_neg (by omega), if_neg (by omega), if_neg (by omega), if_neg (by omega), if_pos rfl]
      have n1 : ra_g s 180 (24 + 8 * r 5 + 1).toNat = st := m1
      have n2 : ra_g s 180 (24 + 8 * r 5 + 2).toNat = sz := m2
      have n3 : ra_g s 180 (24 + 8 * r 5 + 5).toNat = 0 := m3
      rw [g1, g2, g3, show 25 + 8 * (r 5).toNat = (24 + 8 * r 5 + 1).toNat by omega, show 26 + 8 * (r 5).toNat = (24 + 8 * r 5 + 2).toNat by omega, show 29 + 8 * (r 5).toNat = (24 + 8 * r 5 + 5).toNat by omega]
      exact ⟨n1, n2, n3⟩
    · have g : ∀ w : Nat, w < 8 → tx_mk r st sz kd mn (24 + w + 8 * p) = r (24 + w + 8 * p) := fun w hw => by
        unfold tx_mk
        rw [if_neg (by omega), if_neg (by omega), if_neg (by omega), if_neg (by omega), if_neg (by omega), if_neg (by omega), if_neg (by omega), if_neg (by omega), if_neg (by omega)]
      have g1 : tx_mk r st sz kd mn (25 + 8 * p) = r (25 + 8 * p) := g 1 (by omega)
      have g2 : tx_mk r st sz kd mn (26 + 8 * p) = r (26 + 8 * p) := g 2 (by omega)
      have g3 : tx_mk r st sz kd mn (29 + 8 * p) = r (29 + 8 * p) := g 5 (by omega)
      rw [g1, g2, g3, ho (25 + 8 * p) (by omega) (by omega) (by omega), ho (26 + 8 * p) (by omega) (by omega) (by omega), ho (29 + 8 * p) (by omega) (by omega) (by omega)]
      exact d p hp (by omega)
theorem x4RR_tk (hR : x4RR r σ) (hL : LD σ) : TK σ x y (-1) ↔ tx_meets r x y = true := by
  obtain ⟨⟨a0, a1, a2, a3, a4, a5⟩, b, f0, c, d⟩ := hR
  obtain ⟨h1, h2, h3, h4⟩ := hL
  rw [x4tm_iff]
  constructor
  · rintro ⟨p, p0, p1, -, q0, q1, q2⟩
    have hp := (h4 p p0 p1).mp q0
    obtain ⟨d1, d2, -⟩ := d p.toNat (by omega) (by omega)
    have n1 : wq σ p 1 = r (25 + 8 * p.toNat) := by
      rw [← d1]; exact congrArg (ra_g σ 180) (by omega : (24 + 8 * p + 1).toNat = 25 + 8 * p.toNat)
    have n2 : wq σ p 2 = r (26 + 8 * p.toNat) := by
      rw [← d2]; exact congrArg (ra_g σ 180) (by omega : (24 + 8 * p + 2).toNat = 26 + 8 * p.toNat)
    exact ⟨p.toNat, by omega, by omega, by omega, by omega⟩
  · rintro ⟨p, p0, p1, q1, q2⟩
    obtain ⟨d1, d2, -⟩ := d p p0 p1
    have n1 : wq σ p 1 = r (25 + 8 * p) := by
      rw [← d1]; exact congrArg (ra_g σ 180) (by omega : (24 + 8 * (p : Int) + 1).toNat = 25 + 8 * p)
    have n2 : wq σ p 2 = r (26 + 8 * p) := by
      rw [← d2]; exact congrArg (ra_g σ 180) (by omega : (24 + 8 * (p : Int) + 2).toNat = 26 + 8 * p)
    exact ⟨p, by omega, by omega, by omega, (h4 p (by omega) (by omega)).mpr (by omega), by omega, by omega⟩
end
end
end
