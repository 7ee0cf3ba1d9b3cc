/-! T5: the class's loadDisk (printed by wip/gen/c10.py) -/
section
variable {B : Nat → Int} {bn ps ta : Nat} {pk uv al : Int} {r : Nat → Int} {nh : Int} {R : Nat → ra_V}
theorem l9_101_85 {n : Nat} {f : Nat → Int32} {d : Nat} {E0 : Nat} {σ : ra_V} (hE0 : isD E0) (hq : E0 = 14) (hB : x4TB σ B bn) (hN : x4NXC B bn σ ta) (hA : x5A6 r σ E0) (hnw : ¬ tx_isw B bn ta ['p', 'a', 'r', 't'] = true ∧ ¬ tx_isw B bn ta ['l', 'o', 'c', 'k'] = true ∧ ¬ tx_isw B bn ta ['c', 'h', 'u', 'n', 'k'] = true) : ∀ (v2 : Int) (v3 : Int) (hv2 : v2 = 0 ∨ v2 = 1) (hv3 : v3 = 0 ∨ v3 = 1) (hw : x4LYW B bn ta v2 v3) (h5 : r 5 ≤ 0) (hnt : x4LNT r v2 v3), ra_P (g_Gs n f) g_sh 0 (d + 6) g_m_X6_layout 85 [some (.index (175)), some (.index (E0)), some (ra_I v2), some (ra_I v3)] [] σ (fun r9 s => (∃ z : Int, (z = 0 ∨ z = 1) ∧ (x5O6 bn s E0 z (tx_stmt B bn r ta)) ∧ r9 = .inl (some (ra_I z))) ∧ Fr (14) (177) σ s ∧ s (40) = σ (40) ∧ s (176) = σ (176) ∧ ra_g s 175 1 = ra_g σ 175 1 ∧ (∀ c : Nat, 27 ≤ c → c < 175 → s c = σ c)) := by
    intro v2 v3 hv2 hv3 hw h5 hnt
    have n2 := hN.2.1
    have n8 := hN.2.2.2.2.2.2.2.1
    have b1 := hB.1
    have b2 := hB.2.1
    refine ra_load rfl rfl rfl rfl ?_
    refine ra_ifne rfl rfl (ra_in01 hv2) (fun h12 => ?_) (fun h12 => ?_)
    · refine ra_load rfl rfl rfl rfl ?_
      refine ra_iconst rfl ?_
      refine ra_bipush rfl (by decide) ?_
      refine ra_cQPs (s4_106 (by first | omega | (unfold ra_in at *; omega)) (by first | omega | (unfold ra_in at *; omega)) hB (show ra_g σ 175 4 = ((tx_e B bn ta : Nat) : Int) from (by omega)) (by omega)) rfl (ct_106 rfl lk_6_54 (Or.inl rfl) sh_175 (Nat.le_of_ble_eq_true rfl)) (fun z14 s13 hz14 hz14p hs13 => ?_)
      obtain ⟨hf15, hc16, he17⟩ := hs13
      have hF18 := Fr_tr (lo := 14) (hi := 177) Fr_rf hf15 (by omega)
      have hk19 : s13 (40) = σ (40) := (hf15 (40) (by omega))
      have hk20 : s13 (176) = σ (176) := hc16
      have hk21 : s13 (E0) = σ (E0) := (hf15 (E0) (by omega))
      refine ra_ifne rfl rfl (ra_in01 hz14) (fun h22 => ?_) (fun h22 => ?_)
      · obtain ⟨-, v1_, e1, hr1, rfl, hp1, he1, hl1, hu1, hk1, hk1b, hn1⟩ := hz14p.resolve_right (fun q => by omega)
        refine ra_load rfl rfl rfl rfl ?_
        refine ra_ifeq rfl rfl (ra_in01 hv2) (fun h23 => ?_) (fun h23 => ?_)
        · refine ra_load rfl rfl rfl rfl ?_
          refine ra_ifeq rfl rfl (ra_in01 hv3) (fun h24 => ?_) (fun h24 => ?_)
          · refine ra_load rfl rfl rfl rfl ?_
            refine ra_iconst rfl ?_
            refine ra_putB rfl lk_6_35 (Nat.zero_le _) sh_175 rfl rfl (Or.inr rfl) ?_
            refine ra_newU (ra_in01 (Or.inr rfl)) (fun s25 hs25 hp26 hp26o => ?_)
            have hp26_1 := hp26o 1 (by decide)
            have hp26_2 := hp26o 2 (by decide)
            have hp26_3 := hp26o 3 (by decide)
            have hp26_4 := hp26o 4 (by decide)
            have hp26_5 := hp26o 5 (by decide)
            have hp26_6 := hp26o 6 (by decide)
            have hp26_7 := hp26o 7 (by decide)
            have hp26_8 := hp26o 8 (by decide)
            have hp26_9 := hp26o 9 (by decide)
            have hp26_11 := hp26o 11 (by decide)
            have hF27 := Fr_tr (lo := 14) (hi := 177) hF18 hs25 (by omega)
            have hk28 : s25 (40) = σ (40) := (hs25 (40) (by omega)).trans hk19
            have hk29 : s25 (176) = σ (176) := (hs25 (176) (by omega)).trans hk20
            have hk30 : s25 (E0) = σ (E0) := (hs25 (E0) (by omega)).trans hk21
            refine ra_load rfl rfl rfl rfl ?_
            refine ra_load rfl rfl rfl rfl ?_
            refine ra_getI rfl lk_6_58 (Nat.zero_le _) sh_175 rfl ?_
            have hr31 : ra_in (ra_g s25 (175) 7) := (ra_in_g _ _ _)
            refine ra_putI rfl lk_6_110 (Nat.zero_le _) (sh_D hE0) rfl rfl ?_
            refine ra_newU hr31 (fun s32 hs32 hp33 hp33o => ?_)
            have hp33_4 := hp33o 4 (by decide)
            rw [ra_gk hk30] at hp33_4
            have hp33_5 := hp33o 5 (by decide)
            rw [ra_gk hk30] at hp33_5
            have hp33_6 := hp33o 6 (by decide)
            rw [ra_gk hk30] at hp33_6
            have hp33_8 := hp33o 8 (by decide)
            rw [ra_gk hk30] at hp33_8
            have hF34 := Fr_tr (lo := 14) (hi := 177) hF27 hs32 (by omega)
            have hk35 : s32 (40) = σ (40) := (hs32 (40) (by omega)).trans hk28
            have hk36 : s32 (176) = σ (176) := (hs32 (176) (by omega)).trans hk29
            have hk37 : s32 (175) = s25 (175) := (hs32 (175) (by omega))
            refine ra_iconst rfl ?_
            exact ra_ireturn rfl (ra_okB (Or.inr rfl)) ⟨⟨_, (Or.inr rfl), (by exfalso; omega), rfl⟩, ⟨hF34, hk35, hk36, ((ra_gk (hs32 (175) (by omega))).trans (by omega)), (fun c c1 c2 => ((hs32 c (by omega)).trans ((hs25 c (by omega)).trans (hf15 c (by omega)))))⟩⟩
          · refine ra_load rfl rfl rfl rfl ?_
            refine ra_iconst rfl ?_
            refine ra_putB rfl lk_6_32 (Nat.zero_le _) sh_175 rfl rfl (Or.inr rfl) ?_
            refine ra_newU (ra_in01 (Or.inr rfl)) (fun s38 hs38 hp39 hp39o => ?_)
            have hp39_1 := hp39o 1 (by decide)
            have hp39_2 := hp39o 2 (by decide)
            have hp39_3 := hp39o 3 (by decide)
            have hp39_4 := hp39o 4 (by decide)
            have hp39_5 := hp39o 5 (by decide)
            have hp39_6 := hp39o 6 (by decide)
            have hp39_7 := hp39o 7 (by decide)
            have hp39_8 := hp39o 8 (by decide)
            have hp39_10 := hp39o 10 (by decide)
            have hp39_11 := hp39o 11 (by decide)
            have hF40 := Fr_tr (lo := 14) (hi := 177) hF18 hs38 (by omega)
            have hk41 : s38 (40) = σ (40) := (hs38 (40) (by omega)).trans hk19
            have hk42 : s38 (176) = σ (176) := (hs38 (176) (by omega)).trans hk20
            have hk43 : s38 (E0) = σ (E0) := (hs38 (E0) (by omega)).trans hk21
            refine ra_load rfl rfl rfl rfl ?_
            refine ra_load rfl rfl rfl rfl ?_
            refine ra_getI rfl lk_6_58 (Nat.zero_le _) sh_175 rfl ?_
            have hr44 : ra_in (ra_g s38 (175) 7) := (ra_in_g _ _ _)
            refine ra_putI rfl lk_6_108 (Nat.zero_le _) (sh_D hE0) rfl rfl ?_
            refine ra_newU hr44 (fun s45 hs45 hp46 hp46o => ?_)
            have hp46_4 := hp46o 4 (by decide)
            rw [ra_gk hk43] at hp46_4
            have hp46_5 := hp46o 5 (by decide)
            rw [ra_gk hk43] at hp46_5
            have hp46_7 := hp46o 7 (by decide)
            rw [ra_gk hk43] at hp46_7
            have hp46_8 := hp46o 8 (by decide)
            rw [ra_gk hk43] at hp46_8
            have hF47 := Fr_tr (lo := 14) (hi := 177) hF40 hs45 (by omega)
            have hk48 : s45 (40) = σ (40) := (hs45 (40) (by omega)).trans hk41
            have hk49 : s45 (176) = σ (176) := (hs45 (176) (by omega)).trans hk42
            have hk50 : s45 (175) = s38 (175) := (hs45 (175) (by omega))
            refine ra_goto rfl rfl ?_
            refine ra_iconst rfl ?_
            exact ra_ireturn rfl (ra_okB (Or.inr rfl)) ⟨⟨_, (Or.inr rfl), (x5o6_y rfl (x4lay_y2 hw h5 hnt (by omega) (by omega) hr1) (x5A6_set (w := 2) (by omega) hA ⟨fun q => by omega, fun q => by omega⟩ (fun j j1 j2 j3 => ((hp46o j (by omega)).trans ((ra_gk (hs38 (E0) (by omega))).trans (ra_gk (hf15 (E0) (by omega)))))) (show ra_g s45 E0 6 = _ by omega) (show ra_g s45 175 9 = 1 from ((ra_gk (hs45 (175) (by omega))).trans (by omega))) (fun j j1 j2 j3 => ((ra_gk (hs45 (175) (by omega))).trans (by rcases (show j = 8 ∨ j = 9 ∨ j = 10 ∨ j = 11 by omega) with rfl | rfl | rfl | rfl <;> omega))) ⟨((ra_gk (hs45 (175) (by omega))).trans (by omega)), ((ra_gk (hs45 (175) (by omega))).trans (by omega))⟩ (fun p hp => ((hs45 (E0 + 5 + p) (by omega)).trans ((hs38 (E0 + 5 + p) (by omega)).trans (hf15 (E0 + 5 + p) (by omega))))) ((hs45 (E0 + 3) (by omega)).trans ((hs38 (E0 + 3) (by omega)).trans (hf15 (E0 + 3) (by omega))))) ((ra_gk (hs45 (175) (by omega))).trans (by omega)) (by omega)), rfl⟩, ⟨hF47, hk48, hk49, ((ra_gk (hs45 (175) (by omega))).trans (by omega)), (fun c c1 c2 => ((hs45 c (by omega)).trans ((hs38 c (by omega)).trans (hf15 c (by omega)))))⟩⟩
        · refine ra_load rfl rfl rfl rfl ?_
          refine ra_iconst rfl ?_
          refine ra_putB rfl lk_6_28 (Nat.zero_le _) sh_175 rfl rfl (Or.inr rfl) ?_
          refine ra_newU (ra_in01 (Or.inr rfl)) (fun s51 hs51 hp52 hp52o => ?_)
          have hp52_1 := hp52o 1 (by decide)
          have hp52_2 := hp52o 2 (by decide)
          have hp52_3 := hp52o 3 (by decide)
          have hp52_4 := hp52o 4 (by decide)
          have hp52_5 := hp52o 5 (by decide)
          have hp52_6 := hp52o 6 (by decide)
          have hp52_7 := hp52o 7 (by decide)
          have hp52_9 := hp52o 9 (by decide)
          have hp52_10 := hp52o 10 (by decide)
          have hp52_11 := hp52o 11 (by decide)
          have hF53 := Fr_tr (lo := 14) (hi := 177) hF18 hs51 (by omega)
          have hk54 : s51 (40) = σ (40) := (hs51 (40) (by omega)).trans hk19
          have hk55 : s51 (176) = σ (176) := (hs51 (176) (by omega)).trans hk20
          have hk56 : s51 (E0) = σ (E0) := (hs51 (E0) (by omega)).trans hk21
          refine ra_load rfl rfl rfl rfl ?_
          refine ra_load rfl rfl rfl rfl ?_
          refine ra_getI rfl lk_6_58 (Nat.zero_le _) sh_175 rfl ?_
          have hr57 : ra_in (ra_g s51 (175) 7) := (ra_in_g _ _ _)
          refine ra_putI rfl lk_6_106 (Nat.zero_le _) (sh_D hE0) rfl rfl ?_
          refine ra_newU hr57 (fun s58 hs58 hp59 hp59o => ?_)
          have hp59_4 := hp59o 4 (by decide)
          rw [ra_gk hk56] at hp59_4
          have hp59_6 := hp59o 6 (by decide)
          rw [ra_gk hk56] at hp59_6
          have hp59_7 := hp59o 7 (by decide)
          rw [ra_gk hk56] at hp59_7
          have hp59_8 := hp59o 8 (by decide)
          rw [ra_gk hk56] at hp59_8
          have hF60 := Fr_tr (lo := 14) (hi := 177) hF53 hs58 (by omega)
          have hk61 : s58 (40) = σ (40) := (hs58 (40) (by omega)).trans hk54
          have hk62 : s58 (176) = σ (176) := (hs58 (176) (by omega)).trans hk55
          have hk63 : s58 (175) = s51 (175) := (hs58 (175) (by omega))
          refine ra_goto rfl rfl ?_
          refine ra_iconst rfl ?_
          exact ra_ireturn rfl (ra_okB (Or.inr rfl)) ⟨⟨_, (Or.inr rfl), (x5o6_y rfl (x4lay_y1 hw h5 hnt (by omega) hr1) (x5A6_set (w := 1) (by omega) hA ⟨fun q => by omega, fun q => by omega⟩ (fun j j1 j2 j3 => ((hp59o j (by omega)).trans ((ra_gk (hs51 (E0) (by omega))).trans (ra_gk (hf15 (E0) (by omega)))))) (show ra_g s58 E0 5 = _ by omega) (show ra_g s58 175 8 = 1 from ((ra_gk (hs58 (175) (by omega))).trans (by omega))) (fun j j1 j2 j3 => ((ra_gk (hs58 (175) (by omega))).trans (by rcases (show j = 8 ∨ j = 9 ∨ j = 10 ∨ j = 11 by omega) with rfl | rfl | rfl | rfl <;> omega))) ⟨((ra_gk (hs58 (175) (by omega))).trans (by omega)), ((ra_gk (hs58 (175) (by omega))).trans (by omega))⟩ (fun p hp => ((hs58 (E0 + 5 + p) (by omega)).trans ((hs51 (E0 + 5 + p) (by omega)).trans (hf15 (E0 + 5 + p) (by omega))))) ((hs58 (E0 + 3) (by omega)).trans ((hs51 (E0 + 3) (by omega)).trans (hf15 (E0 + 3) (by omega))))) ((ra_gk (hs58 (175) (by omega))).trans (by omega)) (by omega)), rfl⟩, ⟨hF60, hk61, hk62, ((ra_gk (hs58 (175) (by omega))).trans (by omega)), (fun c c1 c2 => ((hs58 c (by omega)).trans ((hs51 c (by omega)).trans (hf15 c (by omega)))))⟩⟩
      · refine ra_goto rfl rfl ?_
        refine ra_iconst rfl ?_
        exact ra_ireturn rfl (ra_okB (Or.inl rfl)) ⟨⟨_, (Or.inl rfl), (x5o6_rd hz14p (by omega) rfl (fun x hx => x4lay_n1 hw h5 hnt (by omega) hx)), rfl⟩, ⟨hF18, hk19, hk20, (by omega), (fun c c1 c2 => (hf15 c (by omega)))⟩⟩
    · refine ra_load rfl rfl rfl rfl ?_
      refine ra_ifeq rfl rfl (ra_in01 hv3) (fun h64 => ?_) (fun h64 => ?_)
      · refine ra_load rfl rfl rfl rfl ?_
        refine ra_iconst rfl ?_
        refine ra_bipush rfl (by decide) ?_
        refine ra_cQPs (s4_106 (by first | omega | (unfold ra_in at *; omega)) (by first | omega | (unfold ra_in at *; omega)) hB (show ra_g σ 175 4 = ((tx_e B bn ta : Nat) : Int) from (by omega)) (by omega)) rfl (ct_106 rfl lk_6_54 (Or.inl rfl) sh_175 (Nat.le_of_ble_eq_true rfl)) (fun z66 s65 hz66 hz66p hs65 => ?_)
        obtain ⟨hf67, hc68, he69⟩ := hs65
        have hF70 := Fr_tr (lo := 14) (hi := 177) Fr_rf hf67 (by omega)
        have hk71 : s65 (40) = σ (40) := (hf67 (40) (by omega))
        have hk72 : s65 (176) = σ (176) := hc68
        have hk73 : s65 (E0) = σ (E0) := (hf67 (E0) (by omega))
        refine ra_ifne rfl rfl (ra_in01 hz66) (fun h74 => ?_) (fun h74 => ?_)
        · obtain ⟨-, v1_, e1, hr1, rfl, hp1, he1, hl1, hu1, hk1, hk1b, hn1⟩ := hz66p.resolve_right (fun q => by omega)
          refine ra_load rfl rfl rfl rfl ?_
          refine ra_ifeq rfl rfl (ra_in01 hv2) (fun h75 => ?_) (fun h75 => ?_)
          · refine ra_load rfl rfl rfl rfl ?_
            refine ra_ifeq rfl rfl (ra_in01 hv3) (fun h76 => ?_) (fun h76 => ?_)
            · refine ra_load rfl rfl rfl rfl ?_
              refine ra_iconst rfl ?_
              refine ra_putB rfl lk_6_35 (Nat.zero_le _) sh_175 rfl rfl (Or.inr rfl) ?_
              refine ra_newU (ra_in01 (Or.inr rfl)) (fun s77 hs77 hp78 hp78o => ?_)
              have hp78_1 := hp78o 1 (by decide)
              have hp78_2 := hp78o 2 (by decide)
              have hp78_3 := hp78o 3 (by decide)
              have hp78_4 := hp78o 4 (by decide)
              have hp78_5 := hp78o 5 (by decide)
              have hp78_6 := hp78o 6 (by decide)
              have hp78_7 := hp78o 7 (by decide)
              have hp78_8 := hp78o 8 (by decide)
              have hp78_9 := hp78o 9 (by decide)
              have hp78_11 := hp78o 11 (by decide)
              have hF79 := Fr_tr (lo := 14) (hi := 177) hF70 hs77 (by omega)
              have hk80 : s77 (40) = σ (40) := (hs77 (40) (by omega)).trans hk71
              have hk81 : s77 (176) = σ (176) := (hs77 (176) (by omega)).trans hk72
              have hk82 : s77 (E0) = σ (E0) := (hs77 (E0) (by omega)).trans hk73
              refine ra_load rfl rfl rfl rfl ?_
              refine ra_load rfl rfl rfl rfl ?_
              refine ra_getI rfl lk_6_58 (Nat.zero_le _) sh_175 rfl ?_
              have hr83 : ra_in (ra_g s77 (175) 7) := (ra_in_g _ _ _)
              refine ra_putI rfl lk_6_110 (Nat.zero_le _) (sh_D hE0) rfl rfl ?_
              refine ra_newU hr83 (fun s84 hs84 hp85 hp85o => ?_)
              have hp85_4 := hp85o 4 (by decide)
              rw [ra_gk hk82] at hp85_4
              have hp85_5 := hp85o 5 (by decide)
              rw [ra_gk hk82] at hp85_5
              have hp85_6 := hp85o 6 (by decide)
              rw [ra_gk hk82] at hp85_6
              have hp85_8 := hp85o 8 (by decide)
              rw [ra_gk hk82] at hp85_8
              have hF86 := Fr_tr (lo := 14) (hi := 177) hF79 hs84 (by omega)
              have hk87 : s84 (40) = σ (40) := (hs84 (40) (by omega)).trans hk80
              have hk88 : s84 (176) = σ (176) := (hs84 (176) (by omega)).trans hk81
              have hk89 : s84 (175) = s77 (175) := (hs84 (175) (by omega))
              refine ra_iconst rfl ?_
              exact ra_ireturn rfl (ra_okB (Or.inr rfl)) ⟨⟨_, (Or.inr rfl), (x5o6_y rfl (x4lay_y3 hw h5 hnt (by omega) (by omega) hr1) (x5A6_set (w := 3) (by omega) hA ⟨fun q => by omega, fun q => by omega⟩ (fun j j1 j2 j3 => ((hp85o j (by omega)).trans ((ra_gk (hs77 (E0) (by omega))).trans (ra_gk (hf67 (E0) (by omega)))))) (show ra_g s84 E0 7 = _ by omega) (show ra_g s84 175 10 = 1 from ((ra_gk (hs84 (175) (by omega))).trans (by omega))) (fun j j1 j2 j3 => ((ra_gk (hs84 (175) (by omega))).trans (by rcases (show j = 8 ∨ j = 9 ∨ j = 10 ∨ j = 11 by omega) with rfl | rfl | rfl | rfl <;> omega))) ⟨((ra_gk (hs84 (175) (by omega))).trans (by omega)), ((ra_gk (hs84 (175) (by omega))).trans (by omega))⟩ (fun p hp => ((hs84 (E0 + 5 + p) (by omega)).trans ((hs77 (E0 + 5 + p) (by omega)).trans (hf67 (E0 + 5 + p) (by omega))))) ((hs84 (E0 + 3) (by omega)).trans ((hs77 (E0 + 3) (by omega)).trans (hf67 (E0 + 3) (by omega))))) ((ra_gk (hs84 (175) (by omega))).trans (by omega)) (by omega)), rfl⟩, ⟨hF86, hk87, hk88, ((ra_gk (hs84 (175) (by omega))).trans (by omega)), (fun c c1 c2 => ((hs84 c (by omega)).trans ((hs77 c (by omega)).trans (hf67 c (by omega)))))⟩⟩
            · refine ra_load rfl rfl rfl rfl ?_
              refine ra_iconst rfl ?_
              refine ra_putB rfl lk_6_32 (Nat.zero_le _) sh_175 rfl rfl (Or.inr rfl) ?_
              refine ra_newU (ra_in01 (Or.inr rfl)) (fun s90 hs90 hp91 hp91o => ?_)
              have hp91_1 := hp91o 1 (by decide)
              have hp91_2 := hp91o 2 (by decide)
              have hp91_3 := hp91o 3 (by decide)
              have hp91_4 := hp91o 4 (by decide)
              have hp91_5 := hp91o 5 (by decide)
              have hp91_6 := hp91o 6 (by decide)
              have hp91_7 := hp91o 7 (by decide)
              have hp91_8 := hp91o 8 (by decide)
              have hp91_10 := hp91o 10 (by decide)
              have hp91_11 := hp91o 11 (by decide)
              have hF92 := Fr_tr (lo := 14) (hi := 177) hF70 hs90 (by omega)
              have hk93 : s90 (40) = σ (40) := (hs90 (40) (by omega)).trans hk71
              have hk94 : s90 (176) = σ (176) := (hs90 (176) (by omega)).trans hk72
              have hk95 : s90 (E0) = σ (E0) := (hs90 (E0) (by omega)).trans hk73
              refine ra_load rfl rfl rfl rfl ?_
              refine ra_load rfl rfl rfl rfl ?_
              refine ra_getI rfl lk_6_58 (Nat.zero_le _) sh_175 rfl ?_
              have hr96 : ra_in (ra_g s90 (175) 7) := (ra_in_g _ _ _)
              refine ra_putI rfl lk_6_108 (Nat.zero_le _) (sh_D hE0) rfl rfl ?_
              refine ra_newU hr96 (fun s97 hs97 hp98 hp98o => ?_)
              have hp98_4 := hp98o 4 (by decide)
              rw [ra_gk hk95] at hp98_4
              have hp98_5 := hp98o 5 (by decide)
              rw [ra_gk hk95] at hp98_5
              have hp98_7 := hp98o 7 (by decide)
              rw [ra_gk hk95] at hp98_7
              have hp98_8 := hp98o 8 (by decide)
              rw [ra_gk hk95] at hp98_8
              have hF99 := Fr_tr (lo := 14) (hi := 177) hF92 hs97 (by omega)
              have hk100 : s97 (40) = σ (40) := (hs97 (40) (by omega)).trans hk93
              have hk101 : s97 (176) = σ (176) := (hs97 (176) (by omega)).trans hk94
              have hk102 : s97 (175) = s90 (175) := (hs97 (175) (by omega))
              refine ra_goto rfl rfl ?_
              refine ra_iconst rfl ?_
              exact ra_ireturn rfl (ra_okB (Or.inr rfl)) ⟨⟨_, (Or.inr rfl), (by exfalso; omega), rfl⟩, ⟨hF99, hk100, hk101, ((ra_gk (hs97 (175) (by omega))).trans (by omega)), (fun c c1 c2 => ((hs97 c (by omega)).trans ((hs90 c (by omega)).trans (hf67 c (by omega)))))⟩⟩
          · refine ra_load rfl rfl rfl rfl ?_
            refine ra_iconst rfl ?_
            refine ra_putB rfl lk_6_28 (Nat.zero_le _) sh_175 rfl rfl (Or.inr rfl) ?_
            refine ra_newU (ra_in01 (Or.inr rfl)) (fun s103 hs103 hp104 hp104o => ?_)
            have hp104_1 := hp104o 1 (by decide)
            have hp104_2 := hp104o 2 (by decide)
            have hp104_3 := hp104o 3 (by decide)
            have hp104_4 := hp104o 4 (by decide)
            have hp104_5 := hp104o 5 (by decide)
            have hp104_6 := hp104o 6 (by decide)
            have hp104_7 := hp104o 7 (by decide)
            have hp104_9 := hp104o 9 (by decide)
            have hp104_10 := hp104o 10 (by decide)
            have hp104_11 := hp104o 11 (by decide)
            have hF105 := Fr_tr (lo := 14) (hi := 177) hF70 hs103 (by omega)
            have hk106 : s103 (40) = σ (40) := (hs103 (40) (by omega)).trans hk71
            have hk107 : s103 (176) = σ (176) := (hs103 (176) (by omega)).trans hk72
            have hk108 : s103 (E0) = σ (E0) := (hs103 (E0) (by omega)).trans hk73
            refine ra_load rfl rfl rfl rfl ?_
            refine ra_load rfl rfl rfl rfl ?_
            refine ra_getI rfl lk_6_58 (Nat.zero_le _) sh_175 rfl ?_
            have hr109 : ra_in (ra_g s103 (175) 7) := (ra_in_g _ _ _)
            refine ra_putI rfl lk_6_106 (Nat.zero_le _) (sh_D hE0) rfl rfl ?_
            refine ra_newU hr109 (fun s110 hs110 hp111 hp111o => ?_)
            have hp111_4 := hp111o 4 (by decide)
            rw [ra_gk hk108] at hp111_4
            have hp111_6 := hp111o 6 (by decide)
            rw [ra_gk hk108] at hp111_6
            have hp111_7 := hp111o 7 (by decide)
            rw [ra_gk hk108] at hp111_7
            have hp111_8 := hp111o 8 (by decide)
            rw [ra_gk hk108] at hp111_8
            have hF112 := Fr_tr (lo := 14) (hi := 177) hF105 hs110 (by omega)
            have hk113 : s110 (40) = σ (40) := (hs110 (40) (by omega)).trans hk106
            have hk114 : s110 (176) = σ (176) := (hs110 (176) (by omega)).trans hk107
            have hk115 : s110 (175) = s103 (175) := (hs110 (175) (by omega))
            refine ra_goto rfl rfl ?_
            refine ra_iconst rfl ?_
            exact ra_ireturn rfl (ra_okB (Or.inr rfl)) ⟨⟨_, (Or.inr rfl), (by exfalso; omega), rfl⟩, ⟨hF112, hk113, hk114, ((ra_gk (hs110 (175) (by omega))).trans (by omega)), (fun c c1 c2 => ((hs110 c (by omega)).trans ((hs103 c (by omega)).trans (hf67 c (by omega)))))⟩⟩
        · refine ra_iconst rfl ?_
          exact ra_ireturn rfl (ra_okB (Or.inl rfl)) ⟨⟨_, (Or.inl rfl), (x5o6_rd hz66p (by omega) rfl (fun x hx => x4lay_n2 hw h5 hnt (by omega) (by omega) hx)), rfl⟩, ⟨hF70, hk71, hk72, (by omega), (fun c c1 c2 => (hf67 c (by omega)))⟩⟩
      · refine ra_load rfl rfl rfl rfl ?_
        refine ra_iconst rfl ?_
        refine ra_bipush rfl (by decide) ?_
        refine ra_cQPs (s4_106 (by first | omega | (unfold ra_in at *; omega)) (by first | omega | (unfold ra_in at *; omega)) hB (show ra_g σ 175 4 = ((tx_e B bn ta : Nat) : Int) from (by omega)) (by omega)) rfl (ct_106 rfl lk_6_54 (Or.inl rfl) sh_175 (Nat.le_of_ble_eq_true rfl)) (fun z117 s116 hz117 hz117p hs116 => ?_)
        obtain ⟨hf118, hc119, he120⟩ := hs116
        have hF121 := Fr_tr (lo := 14) (hi := 177) Fr_rf hf118 (by omega)
        have hk122 : s116 (40) = σ (40) := (hf118 (40) (by omega))
        have hk123 : s116 (176) = σ (176) := hc119
        have hk124 : s116 (E0) = σ (E0) := (hf118 (E0) (by omega))
        refine ra_ifne rfl rfl (ra_in01 hz117) (fun h125 => ?_) (fun h125 => ?_)
        · obtain ⟨-, v1_, e1, hr1, rfl, hp1, he1, hl1, hu1, hk1, hk1b, hn1⟩ := hz117p.resolve_right (fun q => by omega)
          refine ra_load rfl rfl rfl rfl ?_
          refine ra_ifeq rfl rfl (ra_in01 hv2) (fun h126 => ?_) (fun h126 => ?_)
          · refine ra_load rfl rfl rfl rfl ?_
            refine ra_ifeq rfl rfl (ra_in01 hv3) (fun h127 => ?_) (fun h127 => ?_)
            · refine ra_load rfl rfl rfl rfl ?_
              refine ra_iconst rfl ?_
              refine ra_putB rfl lk_6_35 (Nat.zero_le _) sh_175 rfl rfl (Or.inr rfl) ?_
              refine ra_newU (ra_in01 (Or.inr rfl)) (fun s128 hs128 hp129 hp129o => ?_)
              have hp129_1 := hp129o 1 (by decide)
              have hp129_2 := hp129o 2 (by decide)
              have hp129_3 := hp129o 3 (by decide)
              have hp129_4 := hp129o 4 (by decide)
              have hp129_5 := hp129o 5 (by decide)
              have hp129_6 := hp129o 6 (by decide)
              have hp129_7 := hp129o 7 (by decide)
              have hp129_8 := hp129o 8 (by decide)
              have hp129_9 := hp129o 9 (by decide)
              have hp129_11 := hp129o 11 (by decide)
              have hF130 := Fr_tr (lo := 14) (hi := 177) hF121 hs128 (by omega)
              have hk131 : s128 (40) = σ (40) := (hs128 (40) (by omega)).trans hk122
              have hk132 : s128 (176) = σ (176) := (hs128 (176) (by omega)).trans hk123
              have hk133 : s128 (E0) = σ (E0) := (hs128 (E0) (by omega)).trans hk124
              refine ra_load rfl rfl rfl rfl ?_
              refine ra_load rfl rfl rfl rfl ?_
              refine ra_getI rfl lk_6_58 (Nat.zero_le _) sh_175 rfl ?_
              have hr134 : ra_in (ra_g s128 (175) 7) := (ra_in_g _ _ _)
              refine ra_putI rfl lk_6_110 (Nat.zero_le _) (sh_D hE0) rfl rfl ?_
              refine ra_newU hr134 (fun s135 hs135 hp136 hp136o => ?_)
              have hp136_4 := hp136o 4 (by decide)
              rw [ra_gk hk133] at hp136_4
              have hp136_5 := hp136o 5 (by decide)
              rw [ra_gk hk133] at hp136_5
              have hp136_6 := hp136o 6 (by decide)
              rw [ra_gk hk133] at hp136_6
              have hp136_8 := hp136o 8 (by decide)
              rw [ra_gk hk133] at hp136_8
              have hF137 := Fr_tr (lo := 14) (hi := 177) hF130 hs135 (by omega)
              have hk138 : s135 (40) = σ (40) := (hs135 (40) (by omega)).trans hk131
              have hk139 : s135 (176) = σ (176) := (hs135 (176) (by omega)).trans hk132
              have hk140 : s135 (175) = s128 (175) := (hs135 (175) (by omega))
              refine ra_iconst rfl ?_
              exact ra_ireturn rfl (ra_okB (Or.inr rfl)) ⟨⟨_, (Or.inr rfl), (by exfalso; omega), rfl⟩, ⟨hF137, hk138, hk139, ((ra_gk (hs135 (175) (by omega))).trans (by omega)), (fun c c1 c2 => ((hs135 c (by omega)).trans ((hs128 c (by omega)).trans (hf118 c (by omega)))))⟩⟩
            · refine ra_load rfl rfl rfl rfl ?_
              refine ra_iconst rfl ?_
              refine ra_putB rfl lk_6_32 (Nat.zero_le _) sh_175 rfl rfl (Or.inr rfl) ?_
              refine ra_newU (ra_in01 (Or.inr rfl)) (fun s141 hs141 hp142 hp142o => ?_)
              have hp142_1 := hp142o 1 (by decide)
              have hp142_2 := hp142o 2 (by decide)
              have hp142_3 := hp142o 3 (by decide)
              have hp142_4 := hp142o 4 (by decide)
              have hp142_5 := hp142o 5 (by decide)
              have hp142_6 := hp142o 6 (by decide)
              have hp142_7 := hp142o 7 (by decide)
              have hp142_8 := hp142o 8 (by decide)
              have hp142_10 := hp142o 10 (by decide)
              have hp142_11 := hp142o 11 (by decide)
              have hF143 := Fr_tr (lo := 14) (hi := 177) hF121 hs141 (by omega)
              have hk144 : s141 (40) = σ (40) := (hs141 (40) (by omega)).trans hk122
              have hk145 : s141 (176) = σ (176) := (hs141 (176) (by omega)).trans hk123
              have hk146 : s141 (E0) = σ (E0) := (hs141 (E0) (by omega)).trans hk124
              refine ra_load rfl rfl rfl rfl ?_
              refine ra_load rfl rfl rfl rfl ?_
              refine ra_getI rfl lk_6_58 (Nat.zero_le _) sh_175 rfl ?_
              have hr147 : ra_in (ra_g s141 (175) 7) := (ra_in_g _ _ _)
              refine ra_putI rfl lk_6_108 (Nat.zero_le _) (sh_D hE0) rfl rfl ?_
              refine ra_newU hr147 (fun s148 hs148 hp149 hp149o => ?_)
              have hp149_4 := hp149o 4 (by decide)
              rw [ra_gk hk146] at hp149_4
              have hp149_5 := hp149o 5 (by decide)
              rw [ra_gk hk146] at hp149_5
              have hp149_7 := hp149o 7 (by decide)
              rw [ra_gk hk146] at hp149_7
              have hp149_8 := hp149o 8 (by decide)
              rw [ra_gk hk146] at hp149_8
              have hF150 := Fr_tr (lo := 14) (hi := 177) hF143 hs148 (by omega)
              have hk151 : s148 (40) = σ (40) := (hs148 (40) (by omega)).trans hk144
              have hk152 : s148 (176) = σ (176) := (hs148 (176) (by omega)).trans hk145
              have hk153 : s148 (175) = s141 (175) := (hs148 (175) (by omega))
              refine ra_goto rfl rfl ?_
              refine ra_iconst rfl ?_
              exact ra_ireturn rfl (ra_okB (Or.inr rfl)) ⟨⟨_, (Or.inr rfl), (x5o6_y rfl (x4lay_y2 hw h5 hnt (by omega) (by omega) hr1) (x5A6_set (w := 2) (by omega) hA ⟨fun q => by omega, fun q => by omega⟩ (fun j j1 j2 j3 => ((hp149o j (by omega)).trans ((ra_gk (hs141 (E0) (by omega))).trans (ra_gk (hf118 (E0) (by omega)))))) (show ra_g s148 E0 6 = _ by omega) (show ra_g s148 175 9 = 1 from ((ra_gk (hs148 (175) (by omega))).trans (by omega))) (fun j j1 j2 j3 => ((ra_gk (hs148 (175) (by omega))).trans (by rcases (show j = 8 ∨ j = 9 ∨ j = 10 ∨ j = 11 by omega) with rfl | rfl | rfl | rfl <;> omega))) ⟨((ra_gk (hs148 (175) (by omega))).trans (by omega)), ((ra_gk (hs148 (175) (by omega))).trans (by omega))⟩ (fun p hp => ((hs148 (E0 + 5 + p) (by omega)).trans ((hs141 (E0 + 5 + p) (by omega)).trans (hf118 (E0 + 5 + p) (by omega))))) ((hs148 (E0 + 3) (by omega)).trans ((hs141 (E0 + 3) (by omega)).trans (hf118 (E0 + 3) (by omega))))) ((ra_gk (hs148 (175) (by omega))).trans (by omega)) (by omega)), rfl⟩, ⟨hF150, hk151, hk152, ((ra_gk (hs148 (175) (by omega))).trans (by omega)), (fun c c1 c2 => ((hs148 c (by omega)).trans ((hs141 c (by omega)).trans (hf118 c (by omega)))))⟩⟩
          · refine ra_load rfl rfl rfl rfl ?_
            refine ra_iconst rfl ?_
            refine ra_putB rfl lk_6_28 (Nat.zero_le _) sh_175 rfl rfl (Or.inr rfl) ?_
            refine ra_newU (ra_in01 (Or.inr rfl)) (fun s154 hs154 hp155 hp155o => ?_)
            have hp155_1 := hp155o 1 (by decide)
            have hp155_2 := hp155o 2 (by decide)
            have hp155_3 := hp155o 3 (by decide)
            have hp155_4 := hp155o 4 (by decide)
            have hp155_5 := hp155o 5 (by decide)
            have hp155_6 := hp155o 6 (by decide)
            have hp155_7 := hp155o 7 (by decide)
            have hp155_9 := hp155o 9 (by decide)
            have hp155_10 := hp155o 10 (by decide)
            have hp155_11 := hp155o 11 (by decide)
            have hF156 := Fr_tr (lo := 14) (hi := 177) hF121 hs154 (by omega)
            have hk157 : s154 (40) = σ (40) := (hs154 (40) (by omega)).trans hk122
            have hk158 : s154 (176) = σ (176) := (hs154 (176) (by omega)).trans hk123
            have hk159 : s154 (E0) = σ (E0) := (hs154 (E0) (by omega)).trans hk124
            refine ra_load rfl rfl rfl rfl ?_
            refine ra_load rfl rfl rfl rfl ?_
            refine ra_getI rfl lk_6_58 (Nat.zero_le _) sh_175 rfl ?_
            have hr160 : ra_in (ra_g s154 (175) 7) := (ra_in_g _ _ _)
            refine ra_putI rfl lk_6_106 (Nat.zero_le _) (sh_D hE0) rfl rfl ?_
            refine ra_newU hr160 (fun s161 hs161 hp162 hp162o => ?_)
            have hp162_4 := hp162o 4 (by decide)
            rw [ra_gk hk159] at hp162_4
            have hp162_6 := hp162o 6 (by decide)
            rw [ra_gk hk159] at hp162_6
            have hp162_7 := hp162o 7 (by decide)
            rw [ra_gk hk159] at hp162_7
            have hp162_8 := hp162o 8 (by decide)
            rw [ra_gk hk159] at hp162_8
            have hF163 := Fr_tr (lo := 14) (hi := 177) hF156 hs161 (by omega)
            have hk164 : s161 (40) = σ (40) := (hs161 (40) (by omega)).trans hk157
            have hk165 : s161 (176) = σ (176) := (hs161 (176) (by omega)).trans hk158
            have hk166 : s161 (175) = s154 (175) := (hs161 (175) (by omega))
            refine ra_goto rfl rfl ?_
            refine ra_iconst rfl ?_
            exact ra_ireturn rfl (ra_okB (Or.inr rfl)) ⟨⟨_, (Or.inr rfl), (x5o6_y rfl (x4lay_y1 hw h5 hnt (by omega) hr1) (x5A6_set (w := 1) (by omega) hA ⟨fun q => by omega, fun q => by omega⟩ (fun j j1 j2 j3 => ((hp162o j (by omega)).trans ((ra_gk (hs154 (E0) (by omega))).trans (ra_gk (hf118 (E0) (by omega)))))) (show ra_g s161 E0 5 = _ by omega) (show ra_g s161 175 8 = 1 from ((ra_gk (hs161 (175) (by omega))).trans (by omega))) (fun j j1 j2 j3 => ((ra_gk (hs161 (175) (by omega))).trans (by rcases (show j = 8 ∨ j = 9 ∨ j = 10 ∨ j = 11 by omega) with rfl | rfl | rfl | rfl <;> omega))) ⟨((ra_gk (hs161 (175) (by omega))).trans (by omega)), ((ra_gk (hs161 (175) (by omega))).trans (by omega))⟩ (fun p hp => ((hs161 (E0 + 5 + p) (by omega)).trans ((hs154 (E0 + 5 + p) (by omega)).trans (hf118 (E0 + 5 + p) (by omega))))) ((hs161 (E0 + 3) (by omega)).trans ((hs154 (E0 + 3) (by omega)).trans (hf118 (E0 + 3) (by omega))))) ((ra_gk (hs161 (175) (by omega))).trans (by omega)) (by omega)), rfl⟩, ⟨hF163, hk164, hk165, ((ra_gk (hs161 (175) (by omega))).trans (by omega)), (fun c c1 c2 => ((hs161 c (by omega)).trans ((hs154 c (by omega)).trans (hf118 c (by omega)))))⟩⟩
        · refine ra_goto rfl rfl ?_
          refine ra_iconst rfl ?_
          exact ra_ireturn rfl (ra_okB (Or.inl rfl)) ⟨⟨_, (Or.inl rfl), (x5o6_rd hz117p (by omega) rfl (fun x hx => x4lay_n1 hw h5 hnt (by omega) hx)), rfl⟩, ⟨hF121, hk122, hk123, (by omega), (fun c c1 c2 => (hf118 c (by omega)))⟩⟩
theorem l9_101_44 {n : Nat} {f : Nat → Int32} {d : Nat} {E0 : Nat} {σ : ra_V} (hE0 : isD E0) (hq : E0 = 14) (hB : x4TB σ B bn) (hN : x4NXC B bn σ ta) (hA : x5A6 r σ E0) (hnw : ¬ tx_isw B bn ta ['p', 'a', 'r', 't'] = true ∧ ¬ tx_isw B bn ta ['l', 'o', 'c', 'k'] = true ∧ ¬ tx_isw B bn ta ['c', 'h', 'u', 'n', 'k'] = true) : ∀ (v2 : Int) (v3 : Int) (hv2 : v2 = 0 ∨ v2 = 1) (hv3 : v3 = 0 ∨ v3 = 1) (hw : x4LYW B bn ta v2 v3) (h5 : r 5 ≤ 0), ra_P (g_Gs n f) g_sh 0 (d + 6) g_m_X6_layout 44 [some (.index (175)), some (.index (E0)), some (ra_I v2), some (ra_I v3)] [] σ (fun r9 s => (∃ z : Int, (z = 0 ∨ z = 1) ∧ (x5O6 bn s E0 z (tx_stmt B bn r ta)) ∧ r9 = .inl (some (ra_I z))) ∧ Fr (14) (177) σ s ∧ s (40) = σ (40) ∧ s (176) = σ (176) ∧ ra_g s 175 1 = ra_g σ 175 1 ∧ (∀ c : Nat, 27 ≤ c → c < 175 → s c = σ c)) := by
    intro v2 v3 hv2 hv3 hw h5
    have n1 := hN.1
    have hA0 := hA
    obtain ⟨⟨-, -, a3, a4, -, -, -⟩, -⟩ := hA0
    refine ra_load rfl rfl rfl rfl ?_
    refine ra_ifeq rfl rfl (ra_in01 hv2) (fun h9 => ?_) (fun h9 => ?_)
    · refine ra_load rfl rfl rfl rfl ?_
      refine ra_ifeq rfl rfl (ra_in01 hv3) (fun h10 => ?_) (fun h10 => ?_)
      · refine ra_load rfl rfl rfl rfl ?_
        refine ra_getB rfl lk_6_35 (Nat.zero_le _) sh_175 rfl ?_
        refine ra_ifeqB rfl rfl (fun h11 => ?_) (fun h11 => ?_)
        · exact ra_weak (by repeat' constructor) (l9_101_85 hE0 hq hB hN hA hnw v2 v3 hv2 hv3 hw h5 (show (v2 = 1 → r 101 ≠ 1) ∧ (v2 = 0 → v3 = 1 → r 102 ≠ 1) ∧ (v2 = 0 → v3 = 0 → r 103 ≠ 1) by omega))
        · refine ra_load rfl rfl rfl rfl ?_
          refine ra_iconst rfl ?_
          refine ra_cQP (s4_107 (by first | omega | (unfold ra_in at *; omega))) rfl (ct_107 rfl lk_6_50 (Or.inl rfl) sh_175 (Nat.le_of_ble_eq_true rfl)) (fun z168 s167 hz168 hz168p hs167 => ?_)
          obtain ⟨hf169, hc170, he171⟩ := hs167
          have hF172 := Fr_tr (lo := 14) (hi := 177) Fr_rf hf169 (by omega)
          have hk173 : s167 (40) = σ (40) := (hf169 (40) (by omega))
          have hk174 : s167 (176) = σ (176) := hc170
          have hk175 : s167 (E0) = σ (E0) := (hf169 (E0) (by omega))
          exact ra_ireturn rfl (ra_okB hz168) ⟨⟨_, hz168, (x5o6_f (c := 3) (a := ta) hz168p (x4lay_3 hw h5 (by omega)) (by omega) (by omega)), rfl⟩, ⟨hF172, hk173, hk174, (by omega), (fun c c1 c2 => (hf169 c (by omega)))⟩⟩
      · refine ra_load rfl rfl rfl rfl ?_
        refine ra_getB rfl lk_6_32 (Nat.zero_le _) sh_175 rfl ?_
        refine ra_ifeqB rfl rfl (fun h176 => ?_) (fun h176 => ?_)
        · exact ra_weak (by repeat' constructor) (l9_101_85 hE0 hq hB hN hA hnw v2 v3 hv2 hv3 hw h5 (show (v2 = 1 → r 101 ≠ 1) ∧ (v2 = 0 → v3 = 1 → r 102 ≠ 1) ∧ (v2 = 0 → v3 = 0 → r 103 ≠ 1) by omega))
        · refine ra_goto rfl rfl ?_
          refine ra_load rfl rfl rfl rfl ?_
          refine ra_iconst rfl ?_
          refine ra_cQP (s4_107 (by first | omega | (unfold ra_in at *; omega))) rfl (ct_107 rfl lk_6_50 (Or.inl rfl) sh_175 (Nat.le_of_ble_eq_true rfl)) (fun z178 s177 hz178 hz178p hs177 => ?_)
          obtain ⟨hf179, hc180, he181⟩ := hs177
          have hF182 := Fr_tr (lo := 14) (hi := 177) Fr_rf hf179 (by omega)
          have hk183 : s177 (40) = σ (40) := (hf179 (40) (by omega))
          have hk184 : s177 (176) = σ (176) := hc180
          have hk185 : s177 (E0) = σ (E0) := (hf179 (E0) (by omega))
          exact ra_ireturn rfl (ra_okB hz178) ⟨⟨_, hz178, (x5o6_f (c := 3) (a := ta) hz178p (x4lay_3 hw h5 (by omega)) (by omega) (by omega)), rfl⟩, ⟨hF182, hk183, hk184, (by omega), (fun c c1 c2 => (hf179 c (by omega)))⟩⟩
    · refine ra_load rfl rfl rfl rfl ?_
      refine ra_getB rfl lk_6_28 (Nat.zero_le _) sh_175 rfl ?_
      refine ra_ifeqB rfl rfl (fun h186 => ?_) (fun h186 => ?_)
      · exact ra_weak (by repeat' constructor) (l9_101_85 hE0 hq hB hN hA hnw v2 v3 hv2 hv3 hw h5 (show (v2 = 1 → r 101 ≠ 1) ∧ (v2 = 0 → v3 = 1 → r 102 ≠ 1) ∧ (v2 = 0 → v3 = 0 → r 103 ≠ 1) by omega))
      · refine ra_goto rfl rfl ?_
        refine ra_load rfl rfl rfl rfl ?_
        refine ra_iconst rfl ?_
        refine ra_cQP (s4_107 (by first | omega | (unfold ra_in at *; omega))) rfl (ct_107 rfl lk_6_50 (Or.inl rfl) sh_175 (Nat.le_of_ble_eq_true rfl)) (fun z188 s187 hz188 hz188p hs187 => ?_)
        obtain ⟨hf189, hc190, he191⟩ := hs187
        have hF192 := Fr_tr (lo := 14) (hi := 177) Fr_rf hf189 (by omega)
        have hk193 : s187 (40) = σ (40) := (hf189 (40) (by omega))
        have hk194 : s187 (176) = σ (176) := hc190
        have hk195 : s187 (E0) = σ (E0) := (hf189 (E0) (by omega))
        exact ra_ireturn rfl (ra_okB hz188) ⟨⟨_, hz188, (x5o6_f (c := 3) (a := ta) hz188p (x4lay_3 hw h5 (by omega)) (by omega) (by omega)), rfl⟩, ⟨hF192, hk193, hk194, (by omega), (fun c c1 c2 => (hf189 c (by omega)))⟩⟩
theorem s9_101 {n : Nat} {f : Nat → Int32} {d : Nat} {E0 : Nat} {σ : ra_V} (hE0 : isD E0) (hq : E0 = 14) (hB : x4TB σ B bn) (hN : x4NXC B bn σ ta) (hA : x5A6 r σ E0) (hnw : ¬ tx_isw B bn ta ['p', 'a', 'r', 't'] = true ∧ ¬ tx_isw B bn ta ['l', 'o', 'c', 'k'] = true ∧ ¬ tx_isw B bn ta ['c', 'h', 'u', 'n', 'k'] = true) : ra_C (g_Gs n f) g_sh 0 (d + 7) 101 [.index (175), .index (E0)] σ (fun r9 s => (∃ z : Int, (z = 0 ∨ z = 1) ∧ (x5O6 bn s E0 z (tx_stmt B bn r ta)) ∧ r9 = .inl (some (ra_I z))) ∧ Fr (14) (177) σ s ∧ s (40) = σ (40) ∧ s (176) = σ (176) ∧ ra_g s 175 1 = ra_g σ 175 1 ∧ (∀ c : Nat, 27 ≤ c → c < 175 → s c = σ c)) := by
  refine ra_enter (nn := 2) mt_101 rfl (Nat.le_of_ble_eq_true rfl) rfl (fun h => absurd h (by decide +kernel)) ?_
  have hA0 := hA
  obtain ⟨⟨a1, a2, a3, a4, a5, a6, a7⟩, ax0⟩ := hA0
  have hN0 := hN
  obtain ⟨n1, n2, n3, n4, n5, n6, n7, n8, n9⟩ := hN0
  have hB0 := hB
  obtain ⟨b1, b2, b3, b4⟩ := hB0
  refine ra_load rfl rfl rfl rfl ?_
  refine ra_ldcS rfl lk_6_96 ?_
  refine ra_cQPp (s4_112 lk_6_96 (by decide) hB (by first | assumption | rfl | omega)) rfl (ct_112 rfl lk_6_46 (Or.inl rfl) sh_175 (Nat.le_of_ble_eq_true rfl)) (fun z2 hz2 hz2p => ?_)
  have w1 : x4IFW z2 (tx_isw B bn ta ['h', 'e', 'a', 'd'] = true) := by rw [show "head".toList = ['h', 'e', 'a', 'd'] by decide] at hz2p; exact hz2p
  clear hz2p
  refine ra_store (L' := [_, _, _, _]) rfl rfl rfl (Nat.le_of_ble_eq_true rfl) rfl ?_
  refine ra_load rfl rfl rfl rfl ?_
  refine ra_ldcS rfl lk_6_98 ?_
  refine ra_cQPp (s4_112 lk_6_98 (by decide) hB (by first | assumption | rfl | omega)) rfl (ct_112 rfl lk_6_46 (Or.inl rfl) sh_175 (Nat.le_of_ble_eq_true rfl)) (fun z4 hz4 hz4p => ?_)
  have w2 : x4IFW z4 (tx_isw B bn ta ['t', 'a', 'i', 'l'] = true) := by rw [show "tail".toList = ['t', 'a', 'i', 'l'] by decide] at hz4p; exact hz4p
  clear hz4p
  refine ra_store (L' := [_, _, _, _]) rfl rfl rfl (Nat.le_of_ble_eq_true rfl) rfl ?_
  refine ra_load rfl rfl rfl rfl ?_
  refine ra_ifne rfl rfl (ra_in01 hz2) (fun h5 => ?_) (fun h5 => ?_)
  · refine ra_load rfl rfl rfl rfl ?_
    refine ra_cTp (s4_4 hE0 a6) rfl (ct_4 rfl lk_6_102 (Or.inl rfl) (sh_D hE0) (Nat.le_of_ble_eq_true rfl)) ?_
    have hr7 : ra_in ((r 5)) := (x4SZ_in a6)
    refine ra_ifle rfl rfl hr7 (fun h8 => ?_) (fun h8 => ?_)
    · exact ra_weak (by repeat' constructor) (l9_101_44 hE0 hq hB hN hA hnw z2 z4 hz2 hz4 (by first | exact Or.inl ⟨by omega, Iff.mp w1 (by omega)⟩ | exact Or.inr (Or.inl ⟨by omega, by omega, Iff.mp w2 (by omega)⟩) | exact Or.inr (Or.inr ⟨by omega, by omega, Iff.mp w3 (by omega)⟩)) (by omega))
    · refine ra_load rfl rfl rfl rfl ?_
      refine ra_iconst rfl ?_
      refine ra_cQP (s4_107 (by first | omega | (unfold ra_in at *; omega))) rfl (ct_107 rfl lk_6_50 (Or.inl rfl) sh_175 (Nat.le_of_ble_eq_true rfl)) (fun z197 s196 hz197 hz197p hs196 => ?_)
      obtain ⟨hf198, hc199, he200⟩ := hs196
      have hF201 := Fr_tr (lo := 14) (hi := 177) Fr_rf hf198 (by omega)
      have hk202 : s196 (40) = σ (40) := (hf198 (40) (by omega))
      have hk203 : s196 (176) = σ (176) := hc199
      have hk204 : s196 (E0) = σ (E0) := (hf198 (E0) (by omega))
      exact ra_ireturn rfl (ra_okB hz197) ⟨⟨_, hz197, (x5o6_f (c := 1) (a := ta) hz197p (x4lay_1 hnw (by first | exact Or.inr (by omega) | exact Or.inl ⟨fun q => absurd (Iff.mpr w1 q) (by omega), fun q => absurd (Iff.mpr w2 q) (by omega), fun q => absurd (Iff.mpr w3 q) (by omega)⟩)) (by omega) (by omega)), rfl⟩, ⟨hF201, hk202, hk203, (by omega), (fun c c1 c2 => (hf198 c (by omega)))⟩⟩
  · refine ra_load rfl rfl rfl rfl ?_
    refine ra_ifne rfl rfl (ra_in01 hz4) (fun h205 => ?_) (fun h205 => ?_)
    · refine ra_load rfl rfl rfl rfl ?_
      refine ra_cTp (s4_4 hE0 a6) rfl (ct_4 rfl lk_6_102 (Or.inl rfl) (sh_D hE0) (Nat.le_of_ble_eq_true rfl)) ?_
      have hr207 : ra_in ((r 5)) := (x4SZ_in a6)
      refine ra_ifle rfl rfl hr207 (fun h208 => ?_) (fun h208 => ?_)
      · exact ra_weak (by repeat' constructor) (l9_101_44 hE0 hq hB hN hA hnw z2 z4 hz2 hz4 (by first | exact Or.inl ⟨by omega, Iff.mp w1 (by omega)⟩ | exact Or.inr (Or.inl ⟨by omega, by omega, Iff.mp w2 (by omega)⟩) | exact Or.inr (Or.inr ⟨by omega, by omega, Iff.mp w3 (by omega)⟩)) (by omega))
      · refine ra_load rfl rfl rfl rfl ?_
        refine ra_iconst rfl ?_
        refine ra_cQP (s4_107 (by first | omega | (unfold ra_in at *; omega))) rfl (ct_107 rfl lk_6_50 (Or.inl rfl) sh_175 (Nat.le_of_ble_eq_true rfl)) (fun z210 s209 hz210 hz210p hs209 => ?_)
        obtain ⟨hf211, hc212, he213⟩ := hs209
        have hF214 := Fr_tr (lo := 14) (hi := 177) Fr_rf hf211 (by omega)
        have hk215 : s209 (40) = σ (40) := (hf211 (40) (by omega))
        have hk216 : s209 (176) = σ (176) := hc212
        have hk217 : s209 (E0) = σ (E0) := (hf211 (E0) (by omega))
        exact ra_ireturn rfl (ra_okB hz210) ⟨⟨_, hz210, (x5o6_f (c := 1) (a := ta) hz210p (x4lay_1 hnw (by first | exact Or.inr (by omega) | exact Or.inl ⟨fun q => absurd (Iff.mpr w1 q) (by omega), fun q => absurd (Iff.mpr w2 q) (by omega), fun q => absurd (Iff.mpr w3 q) (by omega)⟩)) (by omega) (by omega)), rfl⟩, ⟨hF214, hk215, hk216, (by omega), (fun c c1 c2 => (hf211 c (by omega)))⟩⟩
    · refine ra_load rfl rfl rfl rfl ?_
      refine ra_ldcS rfl lk_6_100 ?_
      refine ra_cQPp (s4_112 lk_6_100 (by decide) hB (by first | assumption | rfl | omega)) rfl (ct_112 rfl lk_6_46 (Or.inl rfl) sh_175 (Nat.le_of_ble_eq_true rfl)) (fun z219 hz219 hz219p => ?_)
      have w3 : x4IFW z219 (tx_isw B bn ta ['a', 'l', 'i', 'g', 'n'] = true) := by rw [show "align".toList = ['a', 'l', 'i', 'g', 'n'] by decide] at hz219p; exact hz219p
      clear hz219p
      refine ra_ifeq rfl rfl (ra_in01 hz219) (fun h220 => ?_) (fun h220 => ?_)
      · refine ra_load rfl rfl rfl rfl ?_
        refine ra_iconst rfl ?_
        refine ra_cQP (s4_107 (by first | omega | (unfold ra_in at *; omega))) rfl (ct_107 rfl lk_6_50 (Or.inl rfl) sh_175 (Nat.le_of_ble_eq_true rfl)) (fun z222 s221 hz222 hz222p hs221 => ?_)
        obtain ⟨hf223, hc224, he225⟩ := hs221
        have hF226 := Fr_tr (lo := 14) (hi := 177) Fr_rf hf223 (by omega)
        have hk227 : s221 (40) = σ (40) := (hf223 (40) (by omega))
        have hk228 : s221 (176) = σ (176) := hc224
        have hk229 : s221 (E0) = σ (E0) := (hf223 (E0) (by omega))
        exact ra_ireturn rfl (ra_okB hz222) ⟨⟨_, hz222, (x5o6_f (c := 1) (a := ta) hz222p (x4lay_1 hnw (by first | exact Or.inr (by omega) | exact Or.inl ⟨fun q => absurd (Iff.mpr w1 q) (by omega), fun q => absurd (Iff.mpr w2 q) (by omega), fun q => absurd (Iff.mpr w3 q) (by omega)⟩)) (by omega) (by omega)), rfl⟩, ⟨hF226, hk227, hk228, (by omega), (fun c c1 c2 => (hf223 c (by omega)))⟩⟩
      · refine ra_load rfl rfl rfl rfl ?_
        refine ra_cTp (s4_4 hE0 a6) rfl (ct_4 rfl lk_6_102 (Or.inl rfl) (sh_D hE0) (Nat.le_of_ble_eq_true rfl)) ?_
        have hr231 : ra_in ((r 5)) := (x4SZ_in a6)
        refine ra_ifle rfl rfl hr231 (fun h232 => ?_) (fun h232 => ?_)
        · exact ra_weak (by repeat' constructor) (l9_101_44 hE0 hq hB hN hA hnw z2 z4 hz2 hz4 (by first | exact Or.inl ⟨by omega, Iff.mp w1 (by omega)⟩ | exact Or.inr (Or.inl ⟨by omega, by omega, Iff.mp w2 (by omega)⟩) | exact Or.inr (Or.inr ⟨by omega, by omega, Iff.mp w3 (by omega)⟩)) (by omega))
        · refine ra_load rfl rfl rfl rfl ?_
          refine ra_iconst rfl ?_
          refine ra_cQP (s4_107 (by first | omega | (unfold ra_in at *; omega))) rfl (ct_107 rfl lk_6_50 (Or.inl rfl) sh_175 (Nat.le_of_ble_eq_true rfl)) (fun z234 s233 hz234 hz234p hs233 => ?_)
          obtain ⟨hf235, hc236, he237⟩ := hs233
          have hF238 := Fr_tr (lo := 14) (hi := 177) Fr_rf hf235 (by omega)
          have hk239 : s233 (40) = σ (40) := (hf235 (40) (by omega))
          have hk240 : s233 (176) = σ (176) := hc236
          have hk241 : s233 (E0) = σ (E0) := (hf235 (E0) (by omega))
          exact ra_ireturn rfl (ra_okB hz234) ⟨⟨_, hz234, (x5o6_f (c := 1) (a := ta) hz234p (x4lay_1 hnw (by first | exact Or.inr (by omega) | exact Or.inl ⟨fun q => absurd (Iff.mpr w1 q) (by omega), fun q => absurd (Iff.mpr w2 q) (by omega), fun q => absurd (Iff.mpr w3 q) (by omega)⟩)) (by omega) (by omega)), rfl⟩, ⟨hF238, hk239, hk240, (by omega), (fun c c1 c2 => (hf235 c (by omega)))⟩⟩
theorem s9_100 {n : Nat} {f : Nat → Int32} {d : Nat} {E0 : Nat} {σ : ra_V} (hE0 : isD E0) (hq : E0 = 14) (hB : x4TB σ B bn) (hN : x4NXC B bn σ ta) (hA : x5A6 r σ E0) : ra_C (g_Gs n f) g_sh 0 (d + 8) 100 [.index (175), .index (E0)] σ (fun r9 s => (∃ z : Int, (z = 0 ∨ z = 1) ∧ (x5O6 bn s E0 z (tx_ps B bn (tx_stmt B bn r ta))) ∧ r9 = .inl (some (ra_I z))) ∧ Fr (14) (177) σ s ∧ s (40) = σ (40) ∧ s (176) = σ (176) ∧ ra_g s 175 1 = ra_g σ 175 1 ∧ (∀ c : Nat, 27 ≤ c → c < 175 → s c = σ c)) := by
  refine ra_enter (nn := 0) mt_100 rfl (Nat.le_of_ble_eq_true rfl) rfl (fun h => absurd h (by decide +kernel)) ?_
  have hA0 := hA
  obtain ⟨⟨a1, a2, a3, a4, a5, a6, a7⟩, ax0⟩ := hA0
  have hN0 := hN
  obtain ⟨n1, n2, n3, n4, n5, n6, n7, n8, n9⟩ := hN0
  have hB0 := hB
  obtain ⟨b1, b2, b3, b4⟩ := hB0
  refine ra_load rfl rfl rfl rfl ?_
  refine ra_ldcS rfl lk_6_78 ?_
  refine ra_cQPp (s4_112 lk_6_78 (by decide) hB (by first | assumption | rfl | omega)) rfl (ct_112 rfl lk_6_46 (Or.inl rfl) sh_175 (Nat.le_of_ble_eq_true rfl)) (fun z2 hz2 hz2p => ?_)
  have w1 : x4IFW z2 (tx_isw B bn ta ['p', 'a', 'r', 't'] = true) := by rw [show "part".toList = ['p', 'a', 'r', 't'] by decide] at hz2p; exact hz2p
  clear hz2p
  refine ra_ifeq rfl rfl (ra_in01 hz2) (fun h3 => ?_) (fun h3 => ?_)
  · refine ra_load rfl rfl rfl rfl ?_
    refine ra_ldcS rfl lk_6_83 ?_
    refine ra_cQPp (s4_112 lk_6_83 (by decide) hB (by first | assumption | rfl | omega)) rfl (ct_112 rfl lk_6_46 (Or.inl rfl) sh_175 (Nat.le_of_ble_eq_true rfl)) (fun z5 hz5 hz5p => ?_)
    have w2 : x4IFW z5 (tx_isw B bn ta ['l', 'o', 'c', 'k'] = true) := by rw [show "lock".toList = ['l', 'o', 'c', 'k'] by decide] at hz5p; exact hz5p
    clear hz5p
    refine ra_ifeq rfl rfl (ra_in01 hz5) (fun h6 => ?_) (fun h6 => ?_)
    · refine ra_load rfl rfl rfl rfl ?_
      refine ra_ldcS rfl lk_6_88 ?_
      refine ra_cQPp (s4_112 lk_6_88 (by decide) hB (by first | assumption | rfl | omega)) rfl (ct_112 rfl lk_6_46 (Or.inl rfl) sh_175 (Nat.le_of_ble_eq_true rfl)) (fun z8 hz8 hz8p => ?_)
      have w3 : x4IFW z8 (tx_isw B bn ta ['c', 'h', 'u', 'n', 'k'] = true) := by rw [show "chunk".toList = ['c', 'h', 'u', 'n', 'k'] by decide] at hz8p; exact hz8p
      clear hz8p
      refine ra_ifeq rfl rfl (ra_in01 hz8) (fun h9 => ?_) (fun h9 => ?_)
      · refine ra_load rfl rfl rfl rfl ?_
        refine ra_load rfl rfl rfl rfl ?_
        refine ra_cQPs (s9_101 hE0 (by first | assumption | rfl | omega) hB (by first | assumption | rfl | omega) (by first | assumption | rfl | omega) ⟨fun q => absurd (Iff.mpr w1 q) (by omega), fun q => absurd (Iff.mpr w2 q) (by omega), fun q => absurd (Iff.mpr w3 q) (by omega)⟩) rfl (ct_101 rfl lk_6_93 (Or.inl rfl) sh_175 (Nat.le_of_ble_eq_true rfl)) (fun z11 s10 hz11 hz11p hs10 => ?_)
        obtain ⟨hf12, hc13, hc14, he15, he16⟩ := hs10
        have hF17 := Fr_tr (lo := 14) (hi := 177) Fr_rf hf12 (by omega)
        have hk18 : s10 (40) = σ (40) := hc13
        have hk19 : s10 (176) = σ (176) := hc14
        refine ra_ifeq rfl rfl (ra_in01 hz11) (fun h20 => ?_) (fun h20 => ?_)
        · refine ra_iconst rfl ?_
          exact ra_ireturn rfl (ra_okB (Or.inl rfl)) ⟨⟨_, (Or.inl rfl), (by exact x5s6n hz11p (by omega) rfl), rfl⟩, ⟨hF17, hk18, hk19, (by omega), (fun c c1 c2 => (he16 c c1 c2))⟩⟩
        · obtain ⟨-, r2, e2, ho2, hA2, hp2, he2⟩ := hz11p.resolve_right (fun q => by omega)
          refine ra_load rfl rfl rfl rfl ?_
          refine ra_cQPs (s4_105 (x4TB_k (by omega) hk19 hB) (show ra_g s10 175 4 = ((e2 : Nat) : Int) from (by omega)) (by omega)) rfl (ct_105 rfl lk_6_67 (Or.inl rfl) sh_175 (Nat.le_of_ble_eq_true rfl)) (fun z22 s21 hz22 hz22p hs21 => ?_)
          obtain ⟨hf23, hc24, he25⟩ := hs21
          have hF26 := Fr_tr (lo := 14) (hi := 177) hF17 hf23 (by omega)
          have hk27 : s21 (40) = σ (40) := (hf23 (40) (by omega)).trans hk18
          have hk28 : s21 (176) = σ (176) := hc24.trans hk19
          refine ra_ifeq rfl rfl (ra_in01 hz22) (fun h29 => ?_) (fun h29 => ?_)
          · refine ra_iconst rfl ?_
            exact ra_ireturn rfl (ra_okB (Or.inl rfl)) ⟨⟨_, (Or.inl rfl), (by exact x5s6f ho2 hz22p (by omega) rfl), rfl⟩, ⟨hF26, hk27, hk28, (by omega), (fun c c1 c2 => ((hf23 c (by omega)).trans (he16 c c1 c2)))⟩⟩
          · refine ra_iconst rfl ?_
            refine ra_goto rfl rfl ?_
            exact ra_ireturn rfl (ra_okB (Or.inr rfl)) ⟨⟨_, (Or.inr rfl), (by exact x5s6y ho2 hA2 hz22p (by omega) rfl (fun j hj => hf23 (E0 + j) (by omega)) (by omega)), rfl⟩, ⟨hF26, hk27, hk28, (by omega), (fun c c1 c2 => ((hf23 c (by omega)).trans (he16 c c1 c2)))⟩⟩
      · refine ra_load rfl rfl rfl rfl ?_
        refine ra_load rfl rfl rfl rfl ?_
        refine ra_cQPs (s9_102 hE0 (by first | assumption | rfl | omega) hB (by first | assumption | rfl | omega) (by first | assumption | rfl | omega)) rfl (ct_102 rfl lk_6_90 (Or.inl rfl) sh_175 (Nat.le_of_ble_eq_true rfl)) (fun z31 s30 hz31 hz31p hs30 => ?_)
        obtain ⟨hf32, hc33, hc34, he35, he36⟩ := hs30
        have hF37 := Fr_tr (lo := 14) (hi := 177) Fr_rf hf32 (by omega)
        have hk38 : s30 (40) = σ (40) := hc33
        have hk39 : s30 (176) = σ (176) := hc34
        refine ra_ifeq rfl rfl (ra_in01 hz31) (fun h40 => ?_) (fun h40 => ?_)
        · refine ra_iconst rfl ?_
          exact ra_ireturn rfl (ra_okB (Or.inl rfl)) ⟨⟨_, (Or.inl rfl), (by rw [x4stm_chunk (Iff.mp w3 (by omega))]; exact x5s6n hz31p (by omega) rfl), rfl⟩, ⟨hF37, hk38, hk39, (by omega), (fun c c1 c2 => (he36 c c1 c2))⟩⟩
        · obtain ⟨-, r2, e2, ho2, hA2, hp2, he2⟩ := hz31p.resolve_right (fun q => by omega)
          refine ra_load rfl rfl rfl rfl ?_
          refine ra_cQPs (s4_105 (x4TB_k (by omega) hk39 hB) (show ra_g s30 175 4 = ((e2 : Nat) : Int) from (by omega)) (by omega)) rfl (ct_105 rfl lk_6_67 (Or.inl rfl) sh_175 (Nat.le_of_ble_eq_true rfl)) (fun z42 s41 hz42 hz42p hs41 => ?_)
          obtain ⟨hf43, hc44, he45⟩ := hs41
          have hF46 := Fr_tr (lo := 14) (hi := 177) hF37 hf43 (by omega)
          have hk47 : s41 (40) = σ (40) := (hf43 (40) (by omega)).trans hk38
          have hk48 : s41 (176) = σ (176) := hc44.trans hk39
          refine ra_ifeq rfl rfl (ra_in01 hz42) (fun h49 => ?_) (fun h49 => ?_)
          · refine ra_iconst rfl ?_
            exact ra_ireturn rfl (ra_okB (Or.inl rfl)) ⟨⟨_, (Or.inl rfl), (by rw [x4stm_chunk (Iff.mp w3 (by omega))]; exact x5s6f ho2 hz42p (by omega) rfl), rfl⟩, ⟨hF46, hk47, hk48, (by omega), (fun c c1 c2 => ((hf43 c (by omega)).trans (he36 c c1 c2)))⟩⟩
          · refine ra_iconst rfl ?_
            refine ra_goto rfl rfl ?_
            exact ra_ireturn rfl (ra_okB (Or.inr rfl)) ⟨⟨_, (Or.inr rfl), (by rw [x4stm_chunk (Iff.mp w3 (by omega))]; exact x5s6y ho2 hA2 hz42p (by omega) rfl (fun j hj => hf43 (E0 + j) (by omega)) (by omega)), rfl⟩, ⟨hF46, hk47, hk48, (by omega), (fun c c1 c2 => ((hf43 c (by omega)).trans (he36 c c1 c2)))⟩⟩
    · refine ra_load rfl rfl rfl rfl ?_
      refine ra_load rfl rfl rfl rfl ?_
      refine ra_cQPs (s9_104 hE0 (by first | assumption | rfl | omega) hB (by first | assumption | rfl | omega) (by first | assumption | rfl | omega)) rfl (ct_104 rfl lk_6_85 (Or.inl rfl) sh_175 (Nat.le_of_ble_eq_true rfl)) (fun z51 s50 hz51 hz51p hs50 => ?_)
      obtain ⟨hf52, hc53, hc54, he55, he56⟩ := hs50
      have hF57 := Fr_tr (lo := 14) (hi := 177) Fr_rf hf52 (by omega)
      have hk58 : s50 (40) = σ (40) := hc53
      have hk59 : s50 (176) = σ (176) := hc54
      refine ra_ifeq rfl rfl (ra_in01 hz51) (fun h60 => ?_) (fun h60 => ?_)
      · refine ra_iconst rfl ?_
        exact ra_ireturn rfl (ra_okB (Or.inl rfl)) ⟨⟨_, (Or.inl rfl), (by rw [x4stm_lock (Iff.mp w2 (by omega))]; exact x5s6n hz51p (by omega) rfl), rfl⟩, ⟨hF57, hk58, hk59, (by omega), (fun c c1 c2 => (he56 c c1 c2))⟩⟩
      · obtain ⟨-, r2, e2, ho2, hA2, hp2, he2⟩ := hz51p.resolve_right (fun q => by omega)
        refine ra_load rfl rfl rfl rfl ?_
        refine ra_cQPs (s4_105 (x4TB_k (by omega) hk59 hB) (show ra_g s50 175 4 = ((e2 : Nat) : Int) from (by omega)) (by omega)) rfl (ct_105 rfl lk_6_67 (Or.inl rfl) sh_175 (Nat.le_of_ble_eq_true rfl)) (fun z62 s61 hz62 hz62p hs61 => ?_)
        obtain ⟨hf63, hc64, he65⟩ := hs61
        have hF66 := Fr_tr (lo := 14) (hi := 177) hF57 hf63 (by omega)
        have hk67 : s61 (40) = σ (40) := (hf63 (40) (by omega)).trans hk58
        have hk68 : s61 (176) = σ (176) := hc64.trans hk59
        refine ra_ifeq rfl rfl (ra_in01 hz62) (fun h69 => ?_) (fun h69 => ?_)
        · refine ra_iconst rfl ?_
          exact ra_ireturn rfl (ra_okB (Or.inl rfl)) ⟨⟨_, (Or.inl rfl), (by rw [x4stm_lock (Iff.mp w2 (by omega))]; exact x5s6f ho2 hz62p (by omega) rfl), rfl⟩, ⟨hF66, hk67, hk68, (by omega), (fun c c1 c2 => ((hf63 c (by omega)).trans (he56 c c1 c2)))⟩⟩
        · refine ra_iconst rfl ?_
          refine ra_goto rfl rfl ?_
          exact ra_ireturn rfl (ra_okB (Or.inr rfl)) ⟨⟨_, (Or.inr rfl), (by rw [x4stm_lock (Iff.mp w2 (by omega))]; exact x5s6y ho2 hA2 hz62p (by omega) rfl (fun j hj => hf63 (E0 + j) (by omega)) (by omega)), rfl⟩, ⟨hF66, hk67, hk68, (by omega), (fun c c1 c2 => ((hf63 c (by omega)).trans (he56 c c1 c2)))⟩⟩
  · refine ra_load rfl rfl rfl rfl ?_
    refine ra_load rfl rfl rfl rfl ?_
    refine ra_cQPs (s9_103 hE0 (by first | assumption | rfl | omega) hB (by first | assumption | rfl | omega) (by first | assumption | rfl | omega)) rfl (ct_103 rfl lk_6_80 (Or.inl rfl) sh_175 (Nat.le_of_ble_eq_true rfl)) (fun z71 s70 hz71 hz71p hs70 => ?_)
    obtain ⟨hf72, hc73, hc74, he75, he76⟩ := hs70
    have hF77 := Fr_tr (lo := 14) (hi := 177) Fr_rf hf72 (by omega)
    have hk78 : s70 (40) = σ (40) := hc73
    have hk79 : s70 (176) = σ (176) := hc74
    refine ra_ifeq rfl rfl (ra_in01 hz71) (fun h80 => ?_) (fun h80 => ?_)
    · refine ra_iconst rfl ?_
      exact ra_ireturn rfl (ra_okB (Or.inl rfl)) ⟨⟨_, (Or.inl rfl), (by rw [x4stm_part (Iff.mp w1 (by omega))]; exact x5s6n hz71p (by omega) rfl), rfl⟩, ⟨hF77, hk78, hk79, (by omega), (fun c c1 c2 => (he76 c c1 c2))⟩⟩
    · obtain ⟨-, r2, e2, ho2, hA2, hp2, he2⟩ := hz71p.resolve_right (fun q => by omega)
      refine ra_load rfl rfl rfl rfl ?_
      refine ra_cQPs (s4_105 (x4TB_k (by omega) hk79 hB) (show ra_g s70 175 4 = ((e2 : Nat) : Int) from (by omega)) (by omega)) rfl (ct_105 rfl lk_6_67 (Or.inl rfl) sh_175 (Nat.le_of_ble_eq_true rfl)) (fun z82 s81 hz82 hz82p hs81 => ?_)
      obtain ⟨hf83, hc84, he85⟩ := hs81
      have hF86 := Fr_tr (lo := 14) (hi := 177) hF77 hf83 (by omega)
      have hk87 : s81 (40) = σ (40) := (hf83 (40) (by omega)).trans hk78
      have hk88 : s81 (176) = σ (176) := hc84.trans hk79
      refine ra_ifeq rfl rfl (ra_in01 hz82) (fun h89 => ?_) (fun h89 => ?_)
      · refine ra_iconst rfl ?_
        exact ra_ireturn rfl (ra_okB (Or.inl rfl)) ⟨⟨_, (Or.inl rfl), (by rw [x4stm_part (Iff.mp w1 (by omega))]; exact x5s6f ho2 hz82p (by omega) rfl), rfl⟩, ⟨hF86, hk87, hk88, (by omega), (fun c c1 c2 => ((hf83 c (by omega)).trans (he76 c c1 c2)))⟩⟩
      · refine ra_iconst rfl ?_
        refine ra_goto rfl rfl ?_
        exact ra_ireturn rfl (ra_okB (Or.inr rfl)) ⟨⟨_, (Or.inr rfl), (by rw [x4stm_part (Iff.mp w1 (by omega))]; exact x5s6y ho2 hA2 hz82p (by omega) rfl (fun j hj => hf83 (E0 + j) (by omega)) (by omega)), rfl⟩, ⟨hF86, hk87, hk88, (by omega), (fun c c1 c2 => ((hf83 c (by omega)).trans (he76 c c1 c2)))⟩⟩
theorem l9_99_83 {n : Nat} {f : Nat → Int32} {d : Nat} {E0 : Nat} {σ : ra_V} (hE0 : isD E0) (hq : E0 = 14) (hB : x4TB σ B bn) : ∀ (nn : Nat) (v2 : Int) (v3 : Int) (s : ra_V) (hv2 : v2 = 0 ∨ v2 = 1) (hv3_0 : 0 ≤ v3) (hv3_1 : v3 ≤ 500) (hF : Fr (14) (177) σ s) (hk0 : s (40) = σ (40)) (hk1 : s (176) = σ (176)) (hl1 : ra_g s 175 1 = ra_g σ 175 1) (hfk : ∀ c : Nat, 27 ≤ c → c < 175 → s c = σ c) (hL : x5L6 B bn s E0 v2 v3) (hm : ((500 - v3 : Int)).toNat < nn), ra_P (g_Gs n f) g_sh 0 (d + 8) g_m_X6_parseInto 83 [some (.index (175)), some (.index (E0)), some (ra_I v2), some (ra_I v3)] [] s (fun r9 s => (∃ z : Int, (z = 0 ∨ z = 1) ∧ (x5P6 s E0 z (tx_text B bn)) ∧ r9 = .inl (some (ra_I z))) ∧ Fr (14) (177) σ s ∧ s (40) = σ (40) ∧ s (176) = σ (176) ∧ ra_g s 175 1 = ra_g σ 175 1 ∧ (∀ c : Nat, 27 ≤ c → c < 175 → s c = σ c)) := by
  intro nn
  induction nn with
  | zero => intro v2 v3 s hv2 hv3_0 hv3_1 hF hk0 hk1 hl1 hfk hL hm; exact absurd hm (Nat.not_lt_zero _)
  | succ nn ih =>
    intro v2 v3 s hv2 hv3_0 hv3_1 hF hk0 hk1 hl1 hfk hL hm
    have hB0 := hB
    obtain ⟨b1, b2, b3, b4⟩ := hB0
    refine ra_load rfl rfl rfl rfl ?_
    refine ra_ifeq rfl rfl (ra_in01 hv2) (fun h72 => ?_) (fun h72 => ?_)
    · refine ra_load rfl rfl rfl rfl ?_
      exact ra_ireturn rfl (ra_okB hv2) ⟨⟨_, hv2, (x5p6_l hL (by omega)), rfl⟩, ⟨hF, hk0, hk1, (by omega), (fun c c1 c2 => (hfk c c1 c2))⟩⟩
    · refine ra_load rfl rfl rfl rfl ?_
      refine ra_sipush rfl (by decide) ?_
      refine ra_icge rfl rfl (by first | omega | (unfold ra_in at *; omega)) (by first | omega | (unfold ra_in at *; omega)) (fun h73 => ?_) (fun h73 => ?_)
      · refine ra_load rfl rfl rfl rfl ?_
        exact ra_ireturn rfl (ra_okB hv2) ⟨⟨_, hv2, (x5p6_l hL (by omega)), rfl⟩, ⟨hF, hk0, hk1, (by omega), (fun c c1 c2 => (hfk c c1 c2))⟩⟩
      · obtain ⟨-, r1, e1, ht1, hA1, hp1, he1⟩ := hL.resolve_right (fun q => by omega)
        refine ra_load rfl rfl rfl rfl ?_
        refine ra_cV (s4_111 (x4TB_k (by omega) hk1 hB) hp1 (by omega)) rfl (ct_111 rfl lk_6_41 (Or.inl rfl) sh_175 (Nat.le_of_ble_eq_true rfl)) (fun s74 hs74 => ?_)
        obtain ⟨hf75, hc76, he77, he78⟩ := hs74
        have hF79 := Fr_tr (lo := 14) (hi := 177) hF hf75 (by omega)
        have hk80 : s74 (40) = σ (40) := (hf75 (40) (by omega)).trans hk0
        have hk81 : s74 (176) = σ (176) := hc76.trans hk1
        have hA3 := x5A6_k (fun j hj => hf75 (E0 + j) (by omega)) (by omega) hA1
        have hN3 := he78
        obtain ⟨n1, n2, n3, n4, n5, n6, n7, n8, n9⟩ := hN3
        refine ra_load rfl rfl rfl rfl ?_
        refine ra_getI rfl lk_6_71 (Nat.zero_le _) sh_175 rfl ?_
        have hr82 : ra_in (ra_g s74 (175) 5) := (ra_in_g _ _ _)
        refine ra_ifne rfl rfl hr82 (fun h83 => ?_) (fun h83 => ?_)
        · refine ra_load rfl rfl rfl rfl ?_
          refine ra_load rfl rfl rfl rfl ?_
          refine ra_cQPs (s9_100 hE0 (by first | assumption | rfl | omega) (x4TB_k (by omega) hk81 hB) he78 hA3) rfl (ct_100 rfl lk_6_74 (Or.inl rfl) sh_175 (Nat.le_of_ble_eq_true rfl)) (fun z85 s84 hz85 hz85p hs84 => ?_)
          obtain ⟨hf86, hc87, hc88, he89, he90⟩ := hs84
          have hF91 := Fr_tr (lo := 14) (hi := 177) hF79 hf86 (by omega)
          have hk92 : s84 (40) = σ (40) := hc87.trans hk80
          have hk93 : s84 (176) = σ (176) := hc88.trans hk81
          refine ra_store (L' := [_, _, _, _]) rfl rfl rfl (Nat.le_of_ble_eq_true rfl) rfl ?_
          refine ra_iinc (L' := [_, _, _, _]) rfl rfl (Nat.le_of_ble_eq_true rfl) rfl ?_
          refine ra_goto rfl rfl ?_
          exact ra_weak (by repeat' constructor) (ih z85 (v3 + 1) s84 hz85 (by first | omega | (unfold ra_in at *; omega)) (by first | omega | (unfold ra_in at *; omega)) hF91 hk92 hk93 (by omega) (fun c c1 c2 => (((he90 c c1 c2).trans (hf75 c (by omega))).trans (hfk c c1 c2))) (x5l6_s hz85p ht1 (by omega) (by omega)) (by first | omega | (unfold ra_in at *; omega)))
        · refine ra_iconst rfl ?_
          exact ra_ireturn rfl (ra_okB (Or.inr rfl)) ⟨⟨_, (Or.inr rfl), (x5p6_e ht1 hA3 rfl (by omega)), rfl⟩, ⟨hF79, hk80, hk81, (by omega), (fun c c1 c2 => ((hf75 c (by omega)).trans (hfk c c1 c2)))⟩⟩
theorem s9_99 {n : Nat} {f : Nat → Int32} {d : Nat} {E0 : Nat} {σ : ra_V} (hE0 : isD E0) (hq : E0 = 14) (hB : x4TB σ B bn) : ra_C (g_Gs n f) g_sh 0 (d + 9) 99 [.index (175), .index (E0)] σ (fun r9 s => (∃ z : Int, (z = 0 ∨ z = 1) ∧ (x5P6 s E0 z (tx_text B bn)) ∧ r9 = .inl (some (ra_I z))) ∧ Fr (14) (177) σ s ∧ s (40) = σ (40) ∧ s (176) = σ (176) ∧ ra_g s 175 1 = ra_g σ 175 1 ∧ (∀ c : Nat, 27 ≤ c → c < 175 → s c = σ c)) := by
  refine ra_enter (nn := 2) mt_99 rfl (Nat.le_of_ble_eq_true rfl) rfl (fun h => absurd h (by decide +kernel)) ?_
  have hB0 := hB
  obtain ⟨b1, b2, b3, b4⟩ := hB0
  refine ra_load rfl rfl rfl rfl ?_
  refine ra_iconst rfl ?_
  refine ra_putI rfl lk_6_15 (Nat.zero_le _) sh_175 rfl rfl ?_
  refine ra_newU (by first | omega | (unfold ra_in at *; omega)) (fun s1 hs1 hp2 hp2o => ?_)
  have hp2_1 := hp2o 1 (by decide)
  have hp2_3 := hp2o 3 (by decide)
  have hp2_4 := hp2o 4 (by decide)
  have hp2_5 := hp2o 5 (by decide)
  have hp2_6 := hp2o 6 (by decide)
  have hp2_7 := hp2o 7 (by decide)
  have hp2_8 := hp2o 8 (by decide)
  have hp2_9 := hp2o 9 (by decide)
  have hp2_10 := hp2o 10 (by decide)
  have hp2_11 := hp2o 11 (by decide)
  have hF3 := Fr_tr (lo := 14) (hi := 177) Fr_rf hs1 (by omega)
  have hk4 : s1 (40) = σ (40) := (hs1 (40) (by omega))
  have hk5 : s1 (176) = σ (176) := (hs1 (176) (by omega))
  refine ra_load rfl rfl rfl rfl ?_
  refine ra_iconst rfl ?_
  refine ra_putI rfl lk_6_19 (Nat.zero_le _) sh_175 rfl rfl ?_
  refine ra_newU (by first | omega | (unfold ra_in at *; omega)) (fun s6 hs6 hp7 hp7o => ?_)
  have hp7_1 := hp7o 1 (by decide)
  have hp7_2 := hp7o 2 (by decide)
  have hp7_4 := hp7o 4 (by decide)
  have hp7_5 := hp7o 5 (by decide)
  have hp7_6 := hp7o 6 (by decide)
  have hp7_7 := hp7o 7 (by decide)
  have hp7_8 := hp7o 8 (by decide)
  have hp7_9 := hp7o 9 (by decide)
  have hp7_10 := hp7o 10 (by decide)
  have hp7_11 := hp7o 11 (by decide)
  have hF8 := Fr_tr (lo := 14) (hi := 177) hF3 hs6 (by omega)
  have hk9 : s6 (40) = σ (40) := (hs6 (40) (by omega)).trans hk4
  have hk10 : s6 (176) = σ (176) := (hs6 (176) (by omega)).trans hk5
  refine ra_load rfl rfl rfl rfl ?_
  refine ra_iconst rfl ?_
  refine ra_putI rfl lk_6_25 (Nat.zero_le _) sh_175 rfl rfl ?_
  refine ra_newU (by first | omega | (unfold ra_in at *; omega)) (fun s11 hs11 hp12 hp12o => ?_)
  have hp12_1 := hp12o 1 (by decide)
  have hp12_2 := hp12o 2 (by decide)
  have hp12_3 := hp12o 3 (by decide)
  have hp12_5 := hp12o 5 (by decide)
  have hp12_6 := hp12o 6 (by decide)
  have hp12_7 := hp12o 7 (by decide)
  have hp12_8 := hp12o 8 (by decide)
  have hp12_9 := hp12o 9 (by decide)
  have hp12_10 := hp12o 10 (by decide)
  have hp12_11 := hp12o 11 (by decide)
  have hF13 := Fr_tr (lo := 14) (hi := 177) hF8 hs11 (by omega)
  have hk14 : s11 (40) = σ (40) := (hs11 (40) (by omega)).trans hk9
  have hk15 : s11 (176) = σ (176) := (hs11 (176) (by omega)).trans hk10
  refine ra_load rfl rfl rfl rfl ?_
  refine ra_iconst rfl ?_
  refine ra_putB rfl lk_6_28 (Nat.zero_le _) sh_175 rfl rfl (Or.inl rfl) ?_
  refine ra_newU (ra_in01 (Or.inl rfl)) (fun s16 hs16 hp17 hp17o => ?_)
  have hp17_1 := hp17o 1 (by decide)
  have hp17_2 := hp17o 2 (by decide)
  have hp17_3 := hp17o 3 (by decide)
  have hp17_4 := hp17o 4 (by decide)
  have hp17_5 := hp17o 5 (by decide)
  have hp17_6 := hp17o 6 (by decide)
  have hp17_7 := hp17o 7 (by decide)
  have hp17_9 := hp17o 9 (by decide)
  have hp17_10 := hp17o 10 (by decide)
  have hp17_11 := hp17o 11 (by decide)
  have hF18 := Fr_tr (lo := 14) (hi := 177) hF13 hs16 (by omega)
  have hk19 : s16 (40) = σ (40) := (hs16 (40) (by omega)).trans hk14
  have hk20 : s16 (176) = σ (176) := (hs16 (176) (by omega)).trans hk15
  refine ra_load rfl rfl rfl rfl ?_
  refine ra_iconst rfl ?_
  refine ra_putB rfl lk_6_32 (Nat.zero_le _) sh_175 rfl rfl (Or.inl rfl) ?_
  refine ra_newU (ra_in01 (Or.inl rfl)) (fun s21 hs21 hp22 hp22o => ?_)
  have hp22_1 := hp22o 1 (by decide)
  have hp22_2 := hp22o 2 (by decide)
  have hp22_3 := hp22o 3 (by decide)
  have hp22_4 := hp22o 4 (by decide)
  have hp22_5 := hp22o 5 (by decide)
  have hp22_6 := hp22o 6 (by decide)
  have hp22_7 := hp22o 7 (by decide)
  have hp22_8 := hp22o 8 (by decide)
  have hp22_10 := hp22o 10 (by decide)
  have hp22_11 := hp22o 11 (by decide)
  have hF23 := Fr_tr (lo := 14) (hi := 177) hF18 hs21 (by omega)
  have hk24 : s21 (40) = σ (40) := (hs21 (40) (by omega)).trans hk19
  have hk25 : s21 (176) = σ (176) := (hs21 (176) (by omega)).trans hk20
  refine ra_load rfl rfl rfl rfl ?_
  refine ra_iconst rfl ?_
  refine ra_putB rfl lk_6_35 (Nat.zero_le _) sh_175 rfl rfl (Or.inl rfl) ?_
  refine ra_newU (ra_in01 (Or.inl rfl)) (fun s26 hs26 hp27 hp27o => ?_)
  have hp27_1 := hp27o 1 (by decide)
  have hp27_2 := hp27o 2 (by decide)
  have hp27_3 := hp27o 3 (by decide)
  have hp27_4 := hp27o 4 (by decide)
  have hp27_5 := hp27o 5 (by decide)
  have hp27_6 := hp27o 6 (by decide)
  have hp27_7 := hp27o 7 (by decide)
  have hp27_8 := hp27o 8 (by decide)
  have hp27_9 := hp27o 9 (by decide)
  have hp27_11 := hp27o 11 (by decide)
  have hF28 := Fr_tr (lo := 14) (hi := 177) hF23 hs26 (by omega)
  have hk29 : s26 (40) = σ (40) := (hs26 (40) (by omega)).trans hk24
  have hk30 : s26 (176) = σ (176) := (hs26 (176) (by omega)).trans hk25
  refine ra_load rfl rfl rfl rfl ?_
  refine ra_iconst rfl ?_
  refine ra_putB rfl lk_6_38 (Nat.zero_le _) sh_175 rfl rfl (Or.inl rfl) ?_
  refine ra_newU (ra_in01 (Or.inl rfl)) (fun s31 hs31 hp32 hp32o => ?_)
  have hp32_1 := hp32o 1 (by decide)
  have hp32_2 := hp32o 2 (by decide)
  have hp32_3 := hp32o 3 (by decide)
  have hp32_4 := hp32o 4 (by decide)
  have hp32_5 := hp32o 5 (by decide)
  have hp32_6 := hp32o 6 (by decide)
  have hp32_7 := hp32o 7 (by decide)
  have hp32_8 := hp32o 8 (by decide)
  have hp32_9 := hp32o 9 (by decide)
  have hp32_10 := hp32o 10 (by decide)
  have hF33 := Fr_tr (lo := 14) (hi := 177) hF28 hs31 (by omega)
  have hk34 : s31 (40) = σ (40) := (hs31 (40) (by omega)).trans hk29
  have hk35 : s31 (176) = σ (176) := (hs31 (176) (by omega)).trans hk30
  refine ra_load rfl rfl rfl rfl ?_
  refine ra_cV (s4_111 (x4TB_k (by omega) hk35 hB) (show ra_g s31 175 4 = ((0 : Nat) : Int) by omega) (by omega)) rfl (ct_111 rfl lk_6_41 (Or.inl rfl) sh_175 (Nat.le_of_ble_eq_true rfl)) (fun s36 hs36 => ?_)
  obtain ⟨hf37, hc38, he39, he40⟩ := hs36
  have hF41 := Fr_tr (lo := 14) (hi := 177) hF33 hf37 (by omega)
  have hk42 : s36 (40) = σ (40) := (hf37 (40) (by omega)).trans hk34
  have hk43 : s36 (176) = σ (176) := hc38.trans hk35
  have hN1 := he40
  obtain ⟨n1, n2, n3, n4, n5, n6, n7, n8, n9⟩ := hN1
  refine ra_load rfl rfl rfl rfl ?_
  refine ra_ldcS rfl lk_6_44 ?_
  refine ra_cQPp (s4_112 lk_6_44 (by decide) (x4TB_k (by omega) hk43 hB) he40) rfl (ct_112 rfl lk_6_46 (Or.inl rfl) sh_175 (Nat.le_of_ble_eq_true rfl)) (fun z45 hz45 hz45p => ?_)
  have w1 : x4IFW z45 (tx_isw B bn (tx_a B bn 0) ['d', 'i', 's', 'k'] = true) := by rw [show "disk".toList = ['d', 'i', 's', 'k'] by decide] at hz45p; exact hz45p
  clear hz45p
  refine ra_ifne rfl rfl (ra_in01 hz45) (fun h46 => ?_) (fun h46 => ?_)
  · refine ra_load rfl rfl rfl rfl ?_
    refine ra_bipush rfl (by decide) ?_
    refine ra_sipush rfl (by decide) ?_
    refine ra_cQPs (s4_106 (by first | omega | (unfold ra_in at *; omega)) (by first | omega | (unfold ra_in at *; omega)) (x4TB_k (by omega) hk43 hB) (show ra_g s36 175 4 = ((tx_e B bn (tx_a B bn 0) : Nat) : Int) by omega) (by omega)) rfl (ct_106 rfl lk_6_54 (Or.inl rfl) sh_175 (Nat.le_of_ble_eq_true rfl)) (fun z48 s47 hz48 hz48p hs47 => ?_)
    obtain ⟨hf49, hc50, he51⟩ := hs47
    have hF52 := Fr_tr (lo := 14) (hi := 177) hF41 hf49 (by omega)
    have hk53 : s47 (40) = σ (40) := (hf49 (40) (by omega)).trans hk42
    have hk54 : s47 (176) = σ (176) := hc50.trans hk43
    refine ra_ifne rfl rfl (ra_in01 hz48) (fun h55 => ?_) (fun h55 => ?_)
    · obtain ⟨-, v1_, e1, hr1, rfl, hp1, he1, hl1, hu1, hk1, hk1b, hn1⟩ := hz48p.resolve_right (fun q => by omega)
      refine ra_load rfl rfl rfl rfl ?_
      refine ra_load rfl rfl rfl rfl ?_
      refine ra_getI rfl lk_6_58 (Nat.zero_le _) sh_175 rfl ?_
      have hr56 : ra_in (ra_g s47 (175) 7) := (ra_in_g _ _ _)
      refine ra_cV (s9_1 hE0 hr56) rfl (ct_1 rfl lk_6_61 (Or.inl rfl) (sh_D hE0) (Nat.le_of_ble_eq_true rfl)) (fun s57 hs57 => ?_)
      obtain ⟨hf58, he59, he60⟩ := hs57
      have hF61 := Fr_tr (lo := 14) (hi := 177) hF52 hf58 (by omega)
      have hk62 : s57 (40) = σ (40) := (hf58 (40) (by omega)).trans hk53
      have hk63 : s57 (176) = σ (176) := (hf58 (176) (by omega)).trans hk54
      have hA4 : x5A6 (tx_r0 (ra_g s47 175 7)) s57 E0 := x5A6_0 ⟨by omega, by omega⟩ he59 he60 ⟨((ra_gk (hf58 (175) (by omega))).trans (by omega)), ((ra_gk (hf58 (175) (by omega))).trans (by omega)), ((ra_gk (hf58 (175) (by omega))).trans (by omega)), ((ra_gk (hf58 (175) (by omega))).trans (by omega)), ((ra_gk (hf58 (175) (by omega))).trans (by omega)), ((ra_gk (hf58 (175) (by omega))).trans (by omega))⟩
      have hp4 : ra_g s57 175 4 = (e1 : Nat) := ((ra_gk (hf58 (175) (by omega))).trans (by omega))
      have hl4 : ra_g s57 175 1 = ra_g σ 175 1 := ((ra_gk (hf58 (175) (by omega))).trans (by omega))
      refine ra_load rfl rfl rfl rfl ?_
      refine ra_cQPs (s4_105 (x4TB_k ((ra_gk (hf58 (175) (by omega))).trans (by omega)) hk63 hB) hp4 (by omega)) rfl (ct_105 rfl lk_6_67 (Or.inl rfl) sh_175 (Nat.le_of_ble_eq_true rfl)) (fun z65 s64 hz65 hz65p hs64 => ?_)
      obtain ⟨hf66, hc67, he68⟩ := hs64
      have hF69 := Fr_tr (lo := 14) (hi := 177) hF61 hf66 (by omega)
      have hk70 : s64 (40) = σ (40) := (hf66 (40) (by omega)).trans hk62
      have hk71 : s64 (176) = σ (176) := hc67.trans hk63
      refine ra_store (L' := [_, _, _, _]) rfl rfl rfl (Nat.le_of_ble_eq_true rfl) rfl ?_
      refine ra_iconst rfl ?_
      refine ra_store (L' := [_, _, _, _]) rfl rfl rfl (Nat.le_of_ble_eq_true rfl) rfl ?_
      exact ra_weak (by repeat' constructor) (l9_99_83 hE0 hq hB _ z65 (0) s64 hz65 (by first | omega | (unfold ra_in at *; omega)) (by first | omega | (unfold ra_in at *; omega)) hF69 hk70 hk71 (by omega) (fun c c1 c2 => ((hf66 c (by omega)).trans ((hf58 c (by omega)).trans ((hf49 c (by omega)).trans ((hf37 c (by omega)).trans ((hs31 c (by omega)).trans ((hs26 c (by omega)).trans ((hs21 c (by omega)).trans ((hs16 c (by omega)).trans ((hs11 c (by omega)).trans ((hs6 c (by omega)).trans (hs1 c (by omega))))))))))))) (x5l6_0 (Iff.mp w1 (by omega)) hr1 hA4 hz65p (fun j hj => hf66 (E0 + j) (by omega)) (by omega)) (Nat.lt_succ_self _))
    · refine ra_iconst rfl ?_
      exact ra_ireturn rfl (ra_okB (Or.inl rfl)) ⟨⟨_, (Or.inl rfl), (x5p6_rd hz48p (by omega) rfl (fun x hx => x4text_2 (Iff.mp w1 (by omega)) hx)), rfl⟩, ⟨hF52, hk53, hk54, (by omega), (fun c c1 c2 => ((hf49 c (by omega)).trans ((hf37 c (by omega)).trans ((hs31 c (by omega)).trans ((hs26 c (by omega)).trans ((hs21 c (by omega)).trans ((hs16 c (by omega)).trans ((hs11 c (by omega)).trans ((hs6 c (by omega)).trans (hs1 c (by omega)))))))))))⟩⟩
  · refine ra_load rfl rfl rfl rfl ?_
    refine ra_iconst rfl ?_
    refine ra_cQP (s4_107 (by first | omega | (unfold ra_in at *; omega))) rfl (ct_107 rfl lk_6_50 (Or.inl rfl) sh_175 (Nat.le_of_ble_eq_true rfl)) (fun z95 s94 hz95 hz95p hs94 => ?_)
    obtain ⟨hf96, hc97, he98⟩ := hs94
    have hF99 := Fr_tr (lo := 14) (hi := 177) hF41 hf96 (by omega)
    have hk100 : s94 (40) = σ (40) := (hf96 (40) (by omega)).trans hk42
    have hk101 : s94 (176) = σ (176) := hc97.trans hk43
    exact ra_ireturn rfl (ra_okB hz95) ⟨⟨_, hz95, (x5p6_f (c := 1) (a := tx_a B bn 0) hz95p (x4text_1 (fun q => absurd (Iff.mpr w1 q) (by omega))) (by omega) (by omega)), rfl⟩, ⟨hF99, hk100, hk101, (by omega), (fun c c1 c2 => ((hf96 c (by omega)).trans ((hf37 c (by omega)).trans ((hs31 c (by omega)).trans ((hs26 c (by omega)).trans ((hs21 c (by omega)).trans ((hs16 c (by omega)).trans ((hs11 c (by omega)).trans ((hs6 c (by omega)).trans (hs1 c (by omega)))))))))))⟩⟩
end
