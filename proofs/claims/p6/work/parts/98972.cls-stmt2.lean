/-! T4: what the class's methods that read a text do (printed by wip/gen/c4.py) -/
section
variable {B : Nat → Int} {bn ps ta : Nat} {pk uv al : Int} {r : Nat → Int}
theorem l4_101_85 {n : Nat} {f : Nat → Int32} {d : Nat} {E0 : Nat} {σ : ra_V} (hE0 : isD E0) (hq : E0 = 14) (hB : x4TB σ B bn) (hN : x4NXC B bn σ ta) (hA : x4AR r σ E0) (hnw : ¬ tx_isw B bn ta ['p', 'a', 'r', 't'] = true ∧ ¬ tx_isw B bn ta ['l', 'o', 'c', 'k'] = true ∧ ¬ tx_isw B bn ta ['c', 'h', 'u', 'n', 'k'] = true) : ∀ (v2 : Int) (v3 : Int) (hv2 : v2 = 0 ∨ v2 = 1) (hv3 : v3 = 0 ∨ v3 = 1) (hw : x4LYW B bn ta v2 v3) (h5 : r 5 ≤ 0) (hnt : x4LNT r v2 v3), ra_P (g_Gs n f) g_sh 0 (d + 6) g_m_X6_layout 85 [some (.index (175)), some (.index (E0)), some (ra_I v2), some (ra_I v3)] [] σ (fun r9 s => (∃ z : Int, (z = 0 ∨ z = 1) ∧ (x4OC bn s E0 z (tx_stmt B bn r ta)) ∧ r9 = .inl (some (ra_I z))) ∧ Fr (14) (177) σ s ∧ s (40) = σ (40) ∧ s (176) = σ (176) ∧ ra_g s 175 1 = ra_g σ 175 1) := by
    intro v2 v3 hv2 hv3 hw h5 hnt
    have n2 := hN.2.1
    have n8 := hN.2.2.2.2.2.2.2.1
    have b1 := hB.1
    have b2 := hB.2.1
    refine ra_load rfl rfl rfl rfl ?_
    refine ra_ifne rfl rfl (ra_in01 hv2) (fun h12 => ?_) (fun h12 => ?_)
    · refine ra_load rfl rfl rfl rfl ?_
      refine ra_iconst rfl ?_
      refine ra_bipush rfl (by decide) ?_
      refine ra_cQPs (s4_106 (by first | omega | (unfold ra_in at *; omega)) (by first | omega | (unfold ra_in at *; omega)) hB (show ra_g σ 175 4 = ((tx_e B bn ta : Nat) : Int) from (by omega)) (by omega)) rfl (ct_106 rfl lk_6_54 (Or.inl rfl) sh_175 (Nat.le_of_ble_eq_true rfl)) (fun z14 s13 hz14 hz14p hs13 => ?_)
      obtain ⟨hf15, hc16, he17⟩ := hs13
      have hF18 := Fr_tr (lo := 14) (hi := 177) Fr_rf hf15 (by omega)
      have hk19 : s13 (40) = σ (40) := (hf15 (40) (by omega))
      have hk20 : s13 (176) = σ (176) := hc16
      have hk21 : s13 (E0) = σ (E0) := (hf15 (E0) (by omega))
      refine ra_ifne rfl rfl (ra_in01 hz14) (fun h22 => ?_) (fun h22 => ?_)
      · obtain ⟨-, v1_, e1, hr1, rfl, hp1, he1, hl1, hu1, hk1, hk1b, hn1⟩ := hz14p.resolve_right (fun q => by omega)
        refine ra_load rfl rfl rfl rfl ?_
        refine ra_ifeq rfl rfl (ra_in01 hv2) (fun h23 => ?_) (fun h23 => ?_)
        · refine ra_load rfl rfl rfl rfl ?_
          refine ra_ifeq rfl rfl (ra_in01 hv3) (fun h24 => ?_) (fun h24 => ?_)
          · refine ra_load rfl rfl rfl rfl ?_
            refine ra_iconst rfl ?_
            refine ra_putB rfl lk_6_35 (Nat.zero_le _) sh_175 rfl rfl (Or.inr rfl) ?_
            refine ra_newU (ra_in01 (Or.inr rfl)) (fun s25 hs25 hp26 hp26o => ?_)
            have hp26_1 := hp26o 1 (by decide)
            have hp26_2 := hp26o 2 (by decide)
            have hp26_3 := hp26o 3 (by decide)
            have hp26_4 := hp26o 4 (by decide)
            have hp26_5 := hp26o 5 (by decide)
            have hp26_6 := hp26o 6 (by decide)
            have hp26_7 := hp26o 7 (by decide)
            have hp26_8 := hp26o 8 (by decide)
            have hp26_9 := hp26o 9 (by decide)
            have hp26_11 := hp26o 11 (by decide)
            have hF27 := Fr_tr (lo := 14) (hi := 177) hF18 hs25 (by omega)
            have hk28 : s25 (40) = σ (40) := (hs25 (40) (by omega)).trans hk19
            have hk29 : s25 (176) = σ (176) := (hs25 (176) (by omega)).trans hk20
            have hk30 : s25 (E0) = σ (E0) := (hs25 (E0) (by omega)).trans hk21
            refine ra_load rfl rfl rfl rfl ?_
            refine ra_load rfl rfl rfl rfl ?_
            refine ra_getI rfl lk_6_58 (Nat.zero_le _) sh_175 rfl ?_
            have hr31 : ra_in (ra_g s25 (175) 7) := (ra_in_g _ _ _)
            refine ra_putI rfl lk_6_110 (Nat.zero_le _) (sh_D hE0) rfl rfl ?_
            refine ra_newU hr31 (fun s32 hs32 hp33 hp33o => ?_)
            have hp33_4 := hp33o 4 (by decide)
            rw [ra_gk hk30] at hp33_4
            have hp33_5 := hp33o 5 (by decide)
            rw [ra_gk hk30] at hp33_5
            have hp33_6 := hp33o 6 (by decide)
            rw [ra_gk hk30] at hp33_6
            have hp33_8 := hp33o 8 (by decide)
            rw [ra_gk hk30] at hp33_8
            have hF34 := Fr_tr (lo := 14) (hi := 177) hF27 hs32 (by omega)
            have hk35 : s32 (40) = σ (40) := (hs32 (40) (by omega)).trans hk28
            have hk36 : s32 (176) = σ (176) := (hs32 (176) (by omega)).trans hk29
            have hk37 : s32 (175) = s25 (175) := (hs32 (175) (by omega))
            refine ra_iconst rfl ?_
            exact ra_ireturn rfl (ra_okB (Or.inr rfl)) ⟨⟨_, (Or.inr rfl), (by exfalso; omega), rfl⟩, ⟨hF34, hk35, hk36, ((ra_gk (hs32 (175) (by omega))).trans (by omega))⟩⟩
          · refine ra_load rfl rfl rfl rfl ?_
            refine ra_iconst rfl ?_
            refine ra_putB rfl lk_6_32 (Nat.zero_le _) sh_175 rfl rfl (Or.inr rfl) ?_
            refine ra_newU (ra_in01 (Or.inr rfl)) (fun s38 hs38 hp39 hp39o => ?_)
            have hp39_1 := hp39o 1 (by decide)
            have hp39_2 := hp39o 2 (by decide)
            have hp39_3 := hp39o 3 (by decide)
            have hp39_4 := hp39o 4 (by decide)
            have hp39_5 := hp39o 5 (by decide)
            have hp39_6 := hp39o 6 (by decide)
            have hp39_7 := hp39o 7 (by decide)
            have hp39_8 := hp39o 8 (by decide)
            have hp39_10 := hp39o 10 (by decide)
            have hp39_11 := hp39o 11 (by decide)
            have hF40 := Fr_tr (lo := 14) (hi := 177) hF18 hs38 (by omega)
            have hk41 : s38 (40) = σ (40) := (hs38 (40) (by omega)).trans hk19
            have hk42 : s38 (176) = σ (176) := (hs38 (176) (by omega)).trans hk20
            have hk43 : s38 (E0) = σ (E0) := (hs38 (E0) (by omega)).trans hk21
            refine ra_load rfl rfl rfl rfl ?_
            refine ra_load rfl rfl rfl rfl ?_
            refine ra_getI rfl lk_6_58 (Nat.zero_le _) sh_175 rfl ?_
            have hr44 : ra_in (ra_g s38 (175) 7) := (ra_in_g _ _ _)
            refine ra_putI rfl lk_6_108 (Nat.zero_le _) (sh_D hE0) rfl rfl ?_
            refine ra_newU hr44 (fun s45 hs45 hp46 hp46o => ?_)
            have hp46_4 := hp46o 4 (by decide)
            rw [ra_gk hk43] at hp46_4
            have hp46_5 := hp46o 5 (by decide)
            rw [ra_gk hk43] at hp46_5
            have hp46_7 := hp46o 7 (by decide)
            rw [ra_gk hk43] at hp46_7
            have hp46_8 := hp46o 8 (by decide)
            rw [ra_gk hk43] at hp46_8
            have hF47 := Fr_tr (lo := 14) (hi := 177) hF40 hs45 (by omega)
            have hk48 : s45 (40) = σ (40) := (hs45 (40) (by omega)).trans hk41
            have hk49 : s45 (176) = σ (176) := (hs45 (176) (by omega)).trans hk42
            have hk50 : s45 (175) = s38 (175) := (hs45 (175) (by omega))
            refine ra_goto rfl rfl ?_
            refine ra_iconst rfl ?_
            exact ra_ireturn rfl (ra_okB (Or.inr rfl)) ⟨⟨_, (Or.inr rfl), (x4oc_y rfl (x4lay_y2 hw h5 hnt (by omega) (by omega) hr1) (x4AR_set (w := 2) (by omega) hA ⟨fun q => by omega, fun q => by omega⟩ (fun j j1 j2 j3 => ((hp46o j (by omega)).trans ((ra_gk (hs38 (E0) (by omega))).trans (ra_gk (hf15 (E0) (by omega)))))) (show ra_g s45 E0 6 = _ by omega) (show ra_g s45 175 9 = 1 from ((ra_gk (hs45 (175) (by omega))).trans (by omega))) (fun j j1 j2 j3 => ((ra_gk (hs45 (175) (by omega))).trans (by rcases (show j = 8 ∨ j = 9 ∨ j = 10 ∨ j = 11 by omega) with rfl | rfl | rfl | rfl <;> omega))) ⟨((ra_gk (hs45 (175) (by omega))).trans (by omega)), ((ra_gk (hs45 (175) (by omega))).trans (by omega))⟩ (fun p hp => ((hs45 (E0 + 5 + p) (by omega)).trans ((hs38 (E0 + 5 + p) (by omega)).trans (hf15 (E0 + 5 + p) (by omega)))))) ((ra_gk (hs45 (175) (by omega))).trans (by omega)) (by omega)), rfl⟩, ⟨hF47, hk48, hk49, ((ra_gk (hs45 (175) (by omega))).trans (by omega))⟩⟩
        · refine ra_load rfl rfl rfl rfl ?_
          refine ra_iconst rfl ?_
          refine ra_putB rfl lk_6_28 (Nat.zero_le _) sh_175 rfl rfl (Or.inr rfl) ?_
          refine ra_newU (ra_in01 (Or.inr rfl)) (fun s51 hs51 hp52 hp52o => ?_)
          have hp52_1 := hp52o 1 (by decide)
          have hp52_2 := hp52o 2 (by decide)
          have hp52_3 := hp52o 3 (by decide)
          have hp52_4 := hp52o 4 (by decide)
          have hp52_5 := hp52o 5 (by decide)
          have hp52_6 := hp52o 6 (by decide)
          have hp52_7 := hp52o 7 (by decide)
          have hp52_9 := hp52o 9 (by decide)
          have hp52_10 := hp52o 10 (by decide)
          have hp52_11 := hp52o 11 (by decide)
          have hF53 := Fr_tr (lo := 14) (hi := 177) hF18 hs51 (by omega)
          have hk54 : s51 (40) = σ (40) := (hs51 (40) (by omega)).trans hk19
          have hk55 : s51 (176) = σ (176) := (hs51 (176) (by omega)).trans hk20
          have hk56 : s51 (E0) = σ (E0) := (hs51 (E0) (by omega)).trans hk21
          refine ra_load rfl rfl rfl rfl ?_
          refine ra_load rfl rfl rfl rfl ?_
          refine ra_getI rfl lk_6_58 (Nat.zero_le _) sh_175 rfl ?_
          have hr57 : ra_in (ra_g s51 (175) 7) := (ra_in_g _ _ _)
          refine ra_putI rfl lk_6_106 (Nat.zero_le _) (sh_D hE0) rfl rfl ?_
          refine ra_newU hr57 (fun s58 hs58 hp59 hp59o => ?_)
          have hp59_4 := hp59o 4 (by decide)
          rw [ra_gk hk56] at hp59_4
          have hp59_6 := hp59o 6 (by decide)
          rw [ra_gk hk56] at hp59_6
          have hp59_7 := hp59o 7 (by decide)
          rw [ra_gk hk56] at hp59_7
          have hp59_8 := hp59o 8 (by decide)
          rw [ra_gk hk56] at hp59_8
          have hF60 := Fr_tr (lo := 14) (hi := 177) hF53 hs58 (by omega)
          have hk61 : s58 (40) = σ (40) := (hs58 (40) (by omega)).trans hk54
          have hk62 : s58 (176) = σ (176) := (hs58 (176) (by omega)).trans hk55
          have hk63 : s58 (175) = s51 (175) := (hs58 (175) (by omega))
          refine ra_goto rfl rfl ?_
          refine ra_iconst rfl ?_
          exact ra_ireturn rfl (ra_okB (Or.inr rfl)) ⟨⟨_, (Or.inr rfl), (x4oc_y rfl (x4lay_y1 hw h5 hnt (by omega) hr1) (x4AR_set (w := 1) (by omega) hA ⟨fun q => by omega, fun q => by omega⟩ (fun j j1 j2 j3 => ((hp59o j (by omega)).trans ((ra_gk (hs51 (E0) (by omega))).trans (ra_gk (hf15 (E0) (by omega)))))) (show ra_g s58 E0 5 = _ by omega) (show ra_g s58 175 8 = 1 from ((ra_gk (hs58 (175) (by omega))).trans (by omega))) (fun j j1 j2 j3 => ((ra_gk (hs58 (175) (by omega))).trans (by rcases (show j = 8 ∨ j = 9 ∨ j = 10 ∨ j = 11 by omega) with rfl | rfl | rfl | rfl <;> omega))) ⟨((ra_gk (hs58 (175) (by omega))).trans (by omega)), ((ra_gk (hs58 (175) (by omega))).trans (by omega))⟩ (fun p hp => ((hs58 (E0 + 5 + p) (by omega)).trans ((hs51 (E0 + 5 + p) (by omega)).trans (hf15 (E0 + 5 + p) (by omega)))))) ((ra_gk (hs58 (175) (by omega))).trans (by omega)) (by omega)), rfl⟩, ⟨hF60, hk61, hk62, ((ra_gk (hs58 (175) (by omega))).trans (by omega))⟩⟩
      · refine ra_goto rfl rfl ?_
        refine ra_iconst rfl ?_
        exact ra_ireturn rfl (ra_okB (Or.inl rfl)) ⟨⟨_, (Or.inl rfl), (x4oc_rd hz14p (by omega) rfl (fun x hx => x4lay_n1 hw h5 hnt (by omega) hx)), rfl⟩, ⟨hF18, hk19, hk20, (by omega)⟩⟩
    · refine ra_load rfl rfl rfl rfl ?_
      refine ra_ifeq rfl rfl (ra_in01 hv3) (fun h64 => ?_) (fun h64 => ?_)
      · refine ra_load rfl rfl rfl rfl ?_
        refine ra_iconst rfl ?_
        refine ra_bipush rfl (by decide) ?_
        refine ra_cQPs (s4_106 (by first | omega | (unfold ra_in at *; omega)) (by first | omega | (unfold ra_in at *; omega)) hB (show ra_g σ 175 4 = ((tx_e B bn ta : Nat) : Int) from (by omega)) (by omega)) rfl (ct_106 rfl lk_6_54 (Or.inl rfl) sh_175 (Nat.le_of_ble_eq_true rfl)) (fun z66 s65 hz66 hz66p hs65 => ?_)
        obtain ⟨hf67, hc68, he69⟩ := hs65
        have hF70 := Fr_tr (lo := 14) (hi := 177) Fr_rf hf67 (by omega)
        have hk71 : s65 (40) = σ (40) := (hf67 (40) (by omega))
        have hk72 : s65 (176) = σ (176) := hc68
        have hk73 : s65 (E0) = σ (E0) := (hf67 (E0) (by omega))
        refine ra_ifne rfl rfl (ra_in01 hz66) (fun h74 => ?_) (fun h74 => ?_)
        · obtain ⟨-, v1_, e1, hr1, rfl, hp1, he1, hl1, hu1, hk1, hk1b, hn1⟩ := hz66p.resolve_right (fun q => by omega)
          refine ra_load rfl rfl rfl rfl ?_
          refine ra_ifeq rfl rfl (ra_in01 hv2) (fun h75 => ?_) (fun h75 => ?_)
          · refine ra_load rfl rfl rfl rfl ?_
            refine ra_ifeq rfl rfl (ra_in01 hv3) (fun h76 => ?_) (fun h76 => ?_)
            · refine ra_load rfl rfl rfl rfl ?_
              refine ra_iconst rfl ?_
              refine ra_putB rfl lk_6_35 (Nat.zero_le _) sh_175 rfl rfl (Or.inr rfl) ?_
              refine ra_newU (ra_in01 (Or.inr rfl)) (fun s77 hs77 hp78 hp78o => ?_)
              have hp78_1 := hp78o 1 (by decide)
              have hp78_2 := hp78o 2 (by decide)
              have hp78_3 := hp78o 3 (by decide)
              have hp78_4 := hp78o 4 (by decide)
              have hp78_5 := hp78o 5 (by decide)
              have hp78_6 := hp78o 6 (by decide)
              have hp78_7 := hp78o 7 (by decide)
              have hp78_8 := hp78o 8 (by decide)
              have hp78_9 := hp78o 9 (by decide)
              have hp78_11 := hp78o 11 (by decide)
              have hF79 := Fr_tr (lo := 14) (hi := 177) hF70 hs77 (by omega)
              have hk80 : s77 (40) = σ (40) := (hs77 (40) (by omega)).trans hk71
              have hk81 : s77 (176) = σ (176) := (hs77 (176) (by omega)).trans hk72
              have hk82 : s77 (E0) = σ (E0) := (hs77 (E0) (by omega)).trans hk73
              refine ra_load rfl rfl rfl rfl ?_
              refine ra_load rfl rfl rfl rfl ?_
              refine ra_getI rfl lk_6_58 (Nat.zero_le _) sh_175 rfl ?_
              have hr83 : ra_in (ra_g s77 (175) 7) := (ra_in_g _ _ _)
              refine ra_putI rfl lk_6_110 (Nat.zero_le _) (sh_D hE0) rfl rfl ?_
              refine ra_newU hr83 (fun s84 hs84 hp85 hp85o => ?_)
              have hp85_4 := hp85o 4 (by decide)
              rw [ra_gk hk82] at hp85_4
              have hp85_5 := hp85o 5 (by decide)
              rw [ra_gk hk82] at hp85_5
              have hp85_6 := hp85o 6 (by decide)
              rw [ra_gk hk82] at hp85_6
              have hp85_8 := hp85o 8 (by decide)
              rw [ra_gk hk82] at hp85_8
              have hF86 := Fr_tr (lo := 14) (hi := 177) hF79 hs84 (by omega)
              have hk87 : s84 (40) = σ (40) := (hs84 (40) (by omega)).trans hk80
              have hk88 : s84 (176) = σ (176) := (hs84 (176) (by omega)).trans hk81
              have hk89 : s84 (175) = s77 (175) := (hs84 (175) (by omega))
              refine ra_iconst rfl ?_
              exact ra_ireturn rfl (ra_okB (Or.inr rfl)) ⟨⟨_, (Or.inr rfl), (x4oc_y rfl (x4lay_y3 hw h5 hnt (by omega) (by omega) hr1) (x4AR_set (w := 3) (by omega) hA ⟨fun q => by omega, fun q => by omega⟩ (fun j j1 j2 j3 => ((hp85o j (by omega)).trans ((ra_gk (hs77 (E0) (by omega))).trans (ra_gk (hf67 (E0) (by omega)))))) (show ra_g s84 E0 7 = _ by omega) (show ra_g s84 175 10 = 1 from ((ra_gk (hs84 (175) (by omega))).trans (by omega))) (fun j j1 j2 j3 => ((ra_gk (hs84 (175) (by omega))).trans (by rcases (show j = 8 ∨ j = 9 ∨ j = 10 ∨ j = 11 by omega) with rfl | rfl | rfl | rfl <;> omega))) ⟨((ra_gk (hs84 (175) (by omega))).trans (by omega)), ((ra_gk (hs84 (175) (by omega))).trans (by omega))⟩ (fun p hp => ((hs84 (E0 + 5 + p) (by omega)).trans ((hs77 (E0 + 5 + p) (by omega)).trans (hf67 (E0 + 5 + p) (by omega)))))) ((ra_gk (hs84 (175) (by omega))).trans (by omega)) (by omega)), rfl⟩, ⟨hF86, hk87, hk88, ((ra_gk (hs84 (175) (by omega))).trans (by omega))⟩⟩
            · refine ra_load rfl rfl rfl rfl ?_
              refine ra_iconst rfl ?_
              refine ra_putB rfl lk_6_32 (Nat.zero_le _) sh_175 rfl rfl (Or.inr rfl) ?_
              refine ra_newU (ra_in01 (Or.inr rfl)) (fun s90 hs90 hp91 hp91o => ?_)
              have hp91_1 := hp91o 1 (by decide)
              have hp91_2 := hp91o 2 (by decide)
              have hp91_3 := hp91o 3 (by decide)
              have hp91_4 := hp91o 4 (by decide)
              have hp91_5 := hp91o 5 (by decide)
              have hp91_6 := hp91o 6 (by decide)
              have hp91_7 := hp91o 7 (by decide)
              have hp91_8 := hp91o 8 (by decide)
              have hp91_10 := hp91o 10 (by decide)
              have hp91_11 := hp91o 11 (by decide)
              have hF92 := Fr_tr (lo := 14) (hi := 177) hF70 hs90 (by omega)
              have hk93 : s90 (40) = σ (40) := (hs90 (40) (by omega)).trans hk71
              have hk94 : s90 (176) = σ (176) := (hs90 (176) (by omega)).trans hk72
              have hk95 : s90 (E0) = σ (E0) := (hs90 (E0) (by omega)).trans hk73
              refine ra_load rfl rfl rfl rfl ?_
              refine ra_load rfl rfl rfl rfl ?_
              refine ra_getI rfl lk_6_58 (Nat.zero_le _) sh_175 rfl ?_
              have hr96 : ra_in (ra_g s90 (175) 7) := (ra_in_g _ _ _)
              refine ra_putI rfl lk_6_108 (Nat.zero_le _) (sh_D hE0) rfl rfl ?_
              refine ra_newU hr96 (fun s97 hs97 hp98 hp98o => ?_)
              have hp98_4 := hp98o 4 (by decide)
              rw [ra_gk hk95] at hp98_4
              have hp98_5 := hp98o 5 (by decide)
              rw [ra_gk hk95] at hp98_5
              have hp98_7 := hp98o 7 (by decide)
              rw [ra_gk hk95] at hp98_7
              have hp98_8 := hp98o 8 (by decide)
              rw [ra_gk hk95] at hp98_8
              have hF99 := Fr_tr (lo := 14) (hi := 177) hF92 hs97 (by omega)
              have hk100 : s97 (40) = σ (40) := (hs97 (40) (by omega)).trans hk93
              have hk101 : s97 (176) = σ (176) := (hs97 (176) (by omega)).trans hk94
              have hk102 : s97 (175) = s90 (175) := (hs97 (175) (by omega))
              refine ra_goto rfl rfl ?_
              refine ra_iconst rfl ?_
              exact ra_ireturn rfl (ra_okB (Or.inr rfl)) ⟨⟨_, (Or.inr rfl), (by exfalso; omega), rfl⟩, ⟨hF99, hk100, hk101, ((ra_gk (hs97 (175) (by omega))).trans (by omega))⟩⟩
          · refine ra_load rfl rfl rfl rfl ?_
            refine ra_iconst rfl ?_
            refine ra_putB rfl lk_6_28 (Nat.zero_le _) sh_175 rfl rfl (Or.inr rfl) ?_
            refine ra_newU (ra_in01 (Or.inr rfl)) (fun s103 hs103 hp104 hp104o => ?_)
            have hp104_1 := hp104o 1 (by decide)
            have hp104_2 := hp104o 2 (by decide)
            have hp104_3 := hp104o 3 (by decide)
            have hp104_4 := hp104o 4 (by decide)
            have hp104_5 := hp104o 5 (by decide)
            have hp104_6 := hp104o 6 (by decide)
            have hp104_7 := hp104o 7 (by decide)
            have hp104_9 := hp104o 9 (by decide)
            have hp104_10 := hp104o 10 (by decide)
            have hp104_11 := hp104o 11 (by decide)
            have hF105 := Fr_tr (lo := 14) (hi := 177) hF70 hs103 (by omega)
            have hk106 : s103 (40) = σ (40) := (hs103 (40) (by omega)).trans hk71
            have hk107 : s103 (176) = σ (176) := (hs103 (176) (by omega)).trans hk72
            have hk108 : s103 (E0) = σ (E0) := (hs103 (E0) (by omega)).trans hk73
            refine ra_load rfl rfl rfl rfl ?_
            refine ra_load rfl rfl rfl rfl ?_
            refine ra_getI rfl lk_6_58 (Nat.zero_le _) sh_175 rfl ?_
            have hr109 : ra_in (ra_g s103 (175) 7) := (ra_in_g _ _ _)
            refine ra_putI rfl lk_6_106 (Nat.zero_le _) (sh_D hE0) rfl rfl ?_
            refine ra_newU hr109 (fun s110 hs110 hp111 hp111o => ?_)
            have hp111_4 := hp111o 4 (by decide)
            rw [ra_gk hk108] at hp111_4
            have hp111_6 := hp111o 6 (by decide)
            rw [ra_gk hk108] at hp111_6
            have hp111_7 := hp111o 7 (by decide)
            rw [ra_gk hk108] at hp111_7
            have hp111_8 := hp111o 8 (by decide)
            rw [ra_gk hk108] at hp111_8
            have hF112 := Fr_tr (lo := 14) (hi := 177) hF105 hs110 (by omega)
            have hk113 : s110 (40) = σ (40) := (hs110 (40) (by omega)).trans hk106
            have hk114 : s110 (176) = σ (176) := (hs110 (176) (by omega)).trans hk107
            have hk115 : s110 (175) = s103 (175) := (hs110 (175) (by omega))
            refine ra_goto rfl rfl ?_
            refine ra_iconst rfl ?_
            exact ra_ireturn rfl (ra_okB (Or.inr rfl)) ⟨⟨_, (Or.inr rfl), (by exfalso; omega), rfl⟩, ⟨hF112, hk113, hk114, ((ra_gk (hs110 (175) (by omega))).trans (by omega))⟩⟩
        · refine ra_iconst rfl ?_
          exact ra_ireturn rfl (ra_okB (Or.inl rfl)) ⟨⟨_, (Or.inl rfl), (x4oc_rd hz66p (by omega) rfl (fun x hx => x4lay_n2 hw h5 hnt (by omega) (by omega) hx)), rfl⟩, ⟨hF70, hk71, hk72, (by omega)⟩⟩
      · refine ra_load rfl rfl rfl rfl ?_
        refine ra_iconst rfl ?_
        refine ra_bipush rfl (by decide) ?_
        refine ra_cQPs (s4_106 (by first | omega | (unfold ra_in at *; omega)) (by first | omega | (unfold ra_in at *; omega)) hB (show ra_g σ 175 4 = ((tx_e B bn ta : Nat) : Int) from (by omega)) (by omega)) rfl (ct_106 rfl lk_6_54 (Or.inl rfl) sh_175 (Nat.le_of_ble_eq_true rfl)) (fun z117 s116 hz117 hz117p hs116 => ?_)
        obtain ⟨hf118, hc119, he120⟩ := hs116
        have hF121 := Fr_tr (lo := 14) (hi := 177) Fr_rf hf118 (by omega)
        have hk122 : s116 (40) = σ (40) := (hf118 (40) (by omega))
        have hk123 : s116 (176) = σ (176) := hc119
        have hk124 : s116 (E0) = σ (E0) := (hf118 (E0) (by omega))
        refine ra_ifne rfl rfl (ra_in01 hz117) (fun h125 => ?_) (fun h125 => ?_)
        · obtain ⟨-, v1_, e1, hr1, rfl, hp1, he1, hl1, hu1, hk1, hk1b, hn1⟩ := hz117p.resolve_right (fun q => by omega)
          refine ra_load rfl rfl rfl rfl ?_
          refine ra_ifeq rfl rfl (ra_in01 hv2) (fun h126 => ?_) (fun h126 => ?_)
          · refine ra_load rfl rfl rfl rfl ?_
            refine ra_ifeq rfl rfl (ra_in01 hv3) (fun h127 => ?_) (fun h127 => ?_)
            · refine ra_load rfl rfl rfl rfl ?_
              refine ra_iconst rfl ?_
              refine ra_putB rfl lk_6_35 (Nat.zero_le _) sh_175 rfl rfl (Or.inr rfl) ?_
              refine ra_newU (ra_in01 (Or.inr rfl)) (fun s128 hs128 hp129 hp129o => ?_)
              have hp129_1 := hp129o 1 (by decide)
              have hp129_2 := hp129o 2 (by decide)
              have hp129_3 := hp129o 3 (by decide)
              have hp129_4 := hp129o 4 (by decide)
              have hp129_5 := hp129o 5 (by decide)
              have hp129_6 := hp129o 6 (by decide)
              have hp129_7 := hp129o 7 (by decide)
              have hp129_8 := hp129o 8 (by decide)
              have hp129_9 := hp129o 9 (by decide)
              have hp129_11 := hp129o 11 (by decide)
              have hF130 := Fr_tr (lo := 14) (hi := 177) hF121 hs128 (by omega)
              have hk131 : s128 (40) = σ (40) := (hs128 (40) (by omega)).trans hk122
              have hk132 : s128 (176) = σ (176) := (hs128 (176) (by omega)).trans hk123
              have hk133 : s128 (E0) = σ (E0) := (hs128 (E0) (by omega)).trans hk124
              refine ra_load rfl rfl rfl rfl ?_
              refine ra_load rfl rfl rfl rfl ?_
              refine ra_getI rfl lk_6_58 (Nat.zero_le _) sh_175 rfl ?_
              have hr134 : ra_in (ra_g s128 (175) 7) := (ra_in_g _ _ _)
              refine ra_putI rfl lk_6_110 (Nat.zero_le _) (sh_D hE0) rfl rfl ?_
              refine ra_newU hr134 (fun s135 hs135 hp136 hp136o => ?_)
              have hp136_4 := hp136o 4 (by decide)
              rw [ra_gk hk133] at hp136_4
              have hp136_5 := hp136o 5 (by decide)
              rw [ra_gk hk133] at hp136_5
              have hp136_6 := hp136o 6 (by decide)
              rw [ra_gk hk133] at hp136_6
              have hp136_8 := hp136o 8 (by decide)
              rw [ra_gk hk133] at hp136_8
              have hF137 := Fr_tr (lo := 14) (hi := 177) hF130 hs135 (by omega)
              have hk138 : s135 (40) = σ (40) := (hs135 (40) (by omega)).trans hk131
              have hk139 : s135 (176) = σ (176) := (hs135 (176) (by omega)).trans hk132
              have hk140 : s135 (175) = s128 (175) := (hs135 (175) (by omega))
              refine ra_iconst rfl ?_
              exact ra_ireturn rfl (ra_okB (Or.inr rfl)) ⟨⟨_, (Or.inr rfl), (by exfalso; omega), rfl⟩, ⟨hF137, hk138, hk139, ((ra_gk (hs135 (175) (by omega))).trans (by omega))⟩⟩
            · refine ra_load rfl rfl rfl rfl ?_
              refine ra_iconst rfl ?_
              refine ra_putB rfl lk_6_32 (Nat.zero_le _) sh_175 rfl rfl (Or.inr rfl) ?_
              refine ra_newU (ra_in01 (Or.inr rfl)) (fun s141 hs141 hp142 hp142o => ?_)
              have hp142_1 := hp142o 1 (by decide)
              have hp142_2 := hp142o 2 (by decide)
              have hp142_3 := hp142o 3 (by decide)
              have hp142_4 := hp142o 4 (by decide)
              have hp142_5 := hp142o 5 (by decide)
              have hp142_6 := hp142o 6 (by decide)
              have hp142_7 := hp142o 7 (by decide)
              have hp142_8 := hp142o 8 (by decide)
              have hp142_10 := hp142o 10 (by decide)
              have hp142_11 := hp142o 11 (by decide)
              have hF143 := Fr_tr (lo := 14) (hi := 177) hF121 hs141 (by omega)
              have hk144 : s141 (40) = σ (40) := (hs141 (40) (by omega)).trans hk122
              have hk145 : s141 (176) = σ (176) := (hs141 (176) (by omega)).trans hk123
              have hk146 : s141 (E0) = σ (E0) := (hs141 (E0) (by omega)).trans hk124
              refine ra_load rfl rfl rfl rfl ?_
              refine ra_load rfl rfl rfl rfl ?_
              refine ra_getI rfl lk_6_58 (Nat.zero_le _) sh_175 rfl ?_
              have hr147 : ra_in (ra_g s141 (175) 7) := (ra_in_g _ _ _)
              refine ra_putI rfl lk_6_108 (Nat.zero_le _) (sh_D hE0) rfl rfl ?_
              refine ra_newU hr147 (fun s148 hs148 hp149 hp149o => ?_)
              have hp149_4 := hp149o 4 (by decide)
              rw [ra_gk hk146] at hp149_4
              have hp149_5 := hp149o 5 (by decide)
              rw [ra_gk hk146] at hp149_5
              have hp149_7 := hp149o 7 (by decide)
              rw [ra_gk hk146] at hp149_7
              have hp149_8 := hp149o 8 (by decide)
              rw [ra_gk hk146] at hp149_8
              have hF150 := Fr_tr (lo := 14) (hi := 177) hF143 hs148 (by omega)
              have hk151 : s148 (40) = σ (40) := (hs148 (40) (by omega)).trans hk144
              have hk152 : s148 (176) = σ (176) := (hs148 (176) (by omega)).trans hk145
              have hk153 : s148 (175) = s141 (175) := (hs148 (175) (by omega))
              refine ra_goto rfl rfl ?_
              refine ra_iconst rfl ?_
              exact ra_ireturn rfl (ra_okB (Or.inr rfl)) ⟨⟨_, (Or.inr rfl), (x4oc_y rfl (x4lay_y2 hw h5 hnt (by omega) (by omega) hr1) (x4AR_set (w := 2) (by omega) hA ⟨fun q => by omega, fun q => by omega⟩ (fun j j1 j2 j3 => ((hp149o j (by omega)).trans ((ra_gk (hs141 (E0) (by omega))).trans (ra_gk (hf118 (E0) (by omega)))))) (show ra_g s148 E0 6 = _ by omega) (show ra_g s148 175 9 = 1 from ((ra_gk (hs148 (175) (by omega))).trans (by omega))) (fun j j1 j2 j3 => ((ra_gk (hs148 (175) (by omega))).trans (by rcases (show j = 8 ∨ j = 9 ∨ j = 10 ∨ j = 11 by omega) with rfl | rfl | rfl | rfl <;> omega))) ⟨((ra_gk (hs148 (175) (by omega))).trans (by omega)), ((ra_gk (hs148 (175) (by omega))).trans (by omega))⟩ (fun p hp => ((hs148 (E0 + 5 + p) (by omega)).trans ((hs141 (E0 + 5 + p) (by omega)).trans (hf118 (E0 + 5 + p) (by omega)))))) ((ra_gk (hs148 (175) (by omega))).trans (by omega)) (by omega)), rfl⟩, ⟨hF150, hk151, hk152, ((ra_gk (hs148 (175) (by omega))).trans (by omega))⟩⟩
          · refine ra_load rfl rfl rfl rfl ?_
            refine ra_iconst rfl ?_
            refine ra_putB rfl lk_6_28 (Nat.zero_le _) sh_175 rfl rfl (Or.inr rfl) ?_
            refine ra_newU (ra_in01 (Or.inr rfl)) (fun s154 hs154 hp155 hp155o => ?_)
            have hp155_1 := hp155o 1 (by decide)
            have hp155_2 := hp155o 2 (by decide)
            have hp155_3 := hp155o 3 (by decide)
            have hp155_4 := hp155o 4 (by decide)
            have hp155_5 := hp155o 5 (by decide)
            have hp155_6 := hp155o 6 (by decide)
            have hp155_7 := hp155o 7 (by decide)
            have hp155_9 := hp155o 9 (by decide)
            have hp155_10 := hp155o 10 (by decide)
            have hp155_11 := hp155o 11 (by decide)
            have hF156 := Fr_tr (lo := 14) (hi := 177) hF121 hs154 (by omega)
            have hk157 : s154 (40) = σ (40) := (hs154 (40) (by omega)).trans hk122
            have hk158 : s154 (176) = σ (176) := (hs154 (176) (by omega)).trans hk123
            have hk159 : s154 (E0) = σ (E0) := (hs154 (E0) (by omega)).trans hk124
            refine ra_load rfl rfl rfl rfl ?_
            refine ra_load rfl rfl rfl rfl ?_
            refine ra_getI rfl lk_6_58 (Nat.zero_le _) sh_175 rfl ?_
            have hr160 : ra_in (ra_g s154 (175) 7) := (ra_in_g _ _ _)
            refine ra_putI rfl lk_6_106 (Nat.zero_le _) (sh_D hE0) rfl rfl ?_
            refine ra_newU hr160 (fun s161 hs161 hp162 hp162o => ?_)
            have hp162_4 := hp162o 4 (by decide)
            rw [ra_gk hk159] at hp162_4
            have hp162_6 := hp162o 6 (by decide)
            rw [ra_gk hk159] at hp162_6
            have hp162_7 := hp162o 7 (by decide)
            rw [ra_gk hk159] at hp162_7
            have hp162_8 := hp162o 8 (by decide)
            rw [ra_gk hk159] at hp162_8
            have hF163 := Fr_tr (lo := 14) (hi := 177) hF156 hs161 (by omega)
            have hk164 : s161 (40) = σ (40) := (hs161 (40) (by omega)).trans hk157
            have hk165 : s161 (176) = σ (176) := (hs161 (176) (by omega)).trans hk158
            have hk166 : s161 (175) = s154 (175) := (hs161 (175) (by omega))
            refine ra_goto rfl rfl ?_
            refine ra_iconst rfl ?_
            exact ra_ireturn rfl (ra_okB (Or.inr rfl)) ⟨⟨_, (Or.inr rfl), (x4oc_y rfl (x4lay_y1 hw h5 hnt (by omega) hr1) (x4AR_set (w := 1) (by omega) hA ⟨fun q => by omega, fun q => by omega⟩ (fun j j1 j2 j3 => ((hp162o j (by omega)).trans ((ra_gk (hs154 (E0) (by omega))).trans (ra_gk (hf118 (E0) (by omega)))))) (show ra_g s161 E0 5 = _ by omega) (show ra_g s161 175 8 = 1 from ((ra_gk (hs161 (175) (by omega))).trans (by omega))) (fun j j1 j2 j3 => ((ra_gk (hs161 (175) (by omega))).trans (by rcases (show j = 8 ∨ j = 9 ∨ j = 10 ∨ j = 11 by omega) with rfl | rfl | rfl | rfl <;> omega))) ⟨((ra_gk (hs161 (175) (by omega))).trans (by omega)), ((ra_gk (hs161 (175) (by omega))).trans (by omega))⟩ (fun p hp => ((hs161 (E0 + 5 + p) (by omega)).trans ((hs154 (E0 + 5 + p) (by omega)).trans (hf118 (E0 + 5 + p) (by omega)))))) ((ra_gk (hs161 (175) (by omega))).trans (by omega)) (by omega)), rfl⟩, ⟨hF163, hk164, hk165, ((ra_gk (hs161 (175) (by omega))).trans (by omega))⟩⟩
        · refine ra_goto rfl rfl ?_
          refine ra_iconst rfl ?_
          exact ra_ireturn rfl (ra_okB (Or.inl rfl)) ⟨⟨_, (Or.inl rfl), (x4oc_rd hz117p (by omega) rfl (fun x hx => x4lay_n1 hw h5 hnt (by omega) hx)), rfl⟩, ⟨hF121, hk122, hk123, (by omega)⟩⟩
theorem l4_101_44 {n : Nat} {f : Nat → Int32} {d : Nat} {E0 : Nat} {σ : ra_V} (hE0 : isD E0) (hq : E0 = 14) (hB : x4TB σ B bn) (hN : x4NXC B bn σ ta) (hA : x4AR r σ E0) (hnw : ¬ tx_isw B bn ta ['p', 'a', 'r', 't'] = true ∧ ¬ tx_isw B bn ta ['l', 'o', 'c', 'k'] = true ∧ ¬ tx_isw B bn ta ['c', 'h', 'u', 'n', 'k'] = true) : ∀ (v2 : Int) (v3 : Int) (hv2 : v2 = 0 ∨ v2 = 1) (hv3 : v3 = 0 ∨ v3 = 1) (hw : x4LYW B bn ta v2 v3) (h5 : r 5 ≤ 0), ra_P (g_Gs n f) g_sh 0 (d + 6) g_m_X6_layout 44 [some (.index (175)), some (.index (E0)), some (ra_I v2), some (ra_I v3)] [] σ (fun r9 s => (∃ z : Int, (z = 0 ∨ z = 1) ∧ (x4OC bn s E0 z (tx_stmt B bn r ta)) ∧ r9 = .inl (some (ra_I z))) ∧ Fr (14) (177) σ s ∧ s (40) = σ (40) ∧ s (176) = σ (176) ∧ ra_g s 175 1 = ra_g σ 175 1) := by
    intro v2 v3 hv2 hv3 hw h5
    have n1 := hN.1
    have hA0 := hA
    obtain ⟨-, -, a3, a4, -, -, -⟩ := hA0
    refine ra_load rfl rfl rfl rfl ?_
    refine ra_ifeq rfl rfl (ra_in01 hv2) (fun h9 => ?_) (fun h9 => ?_)
    · refine ra_load rfl rfl rfl rfl ?_
      refine ra_ifeq rfl rfl (ra_in01 hv3) (fun h10 => ?_) (fun h10 => ?_)
      · refine ra_load rfl rfl rfl rfl ?_
        refine ra_getB rfl lk_6_35 (Nat.zero_le _) sh_175 rfl ?_
        refine ra_ifeqB rfl rfl (fun h11 => ?_) (fun h11 => ?_)
        · exact ra_weak (by repeat' constructor) (l4_101_85 hE0 hq hB hN hA hnw v2 v3 hv2 hv3 hw h5 (show (v2 = 1 → r 101 ≠ 1) ∧ (v2 = 0 → v3 = 1 → r 102 ≠ 1) ∧ (v2 = 0 → v3 = 0 → r 103 ≠ 1) by omega))
        · refine ra_load rfl rfl rfl rfl ?_
          refine ra_iconst rfl ?_
          refine ra_cQP (s4_107 (by first | omega | (unfold ra_in at *; omega))) rfl (ct_107 rfl lk_6_50 (Or.inl rfl) sh_175 (Nat.le_of_ble_eq_true rfl)) (fun z168 s167 hz168 hz168p hs167 => ?_)
          obtain ⟨hf169, hc170, he171⟩ := hs167
          have hF172 := Fr_tr (lo := 14) (hi := 177) Fr_rf hf169 (by omega)
          have hk173 : s167 (40) = σ (40) := (hf169 (40) (by omega))
          have hk174 : s167 (176) = σ (176) := hc170
          have hk175 : s167 (E0) = σ (E0) := (hf169 (E0) (by omega))
          exact ra_ireturn rfl (ra_okB hz168) ⟨⟨_, hz168, (x4oc_f (c := 3) (a := ta) hz168p (x4lay_3 hw h5 (by omega)) (by omega) (by omega)), rfl⟩, ⟨hF172, hk173, hk174, (by omega)⟩⟩
      · refine ra_load rfl rfl rfl rfl ?_
        refine ra_getB rfl lk_6_32 (Nat.zero_le _) sh_175 rfl ?_
        refine ra_ifeqB rfl rfl (fun h176 => ?_) (fun h176 => ?_)
        · exact ra_weak (by repeat' constructor) (l4_101_85 hE0 hq hB hN hA hnw v2 v3 hv2 hv3 hw h5 (show (v2 = 1 → r 101 ≠ 1) ∧ (v2 = 0 → v3 = 1 → r 102 ≠ 1) ∧ (v2 = 0 → v3 = 0 → r 103 ≠ 1) by omega))
        · refine ra_goto rfl rfl ?_
          refine ra_load rfl rfl rfl rfl ?_
          refine ra_iconst rfl ?_
          refine ra_cQP (s4_107 (by first | omega | (unfold ra_in at *; omega))) rfl (ct_107 rfl lk_6_50 (Or.inl rfl) sh_175 (Nat.le_of_ble_eq_true rfl)) (fun z178 s177 hz178 hz178p hs177 => ?_)
          obtain ⟨hf179, hc180, he181⟩ := hs177
          have hF182 := Fr_tr (lo := 14) (hi := 177) Fr_rf hf179 (by omega)
          have hk183 : s177 (40) = σ (40) := (hf179 (40) (by omega))
          have hk184 : s177 (176) = σ (176) := hc180
          have hk185 : s177 (E0) = σ (E0) := (hf179 (E0) (by omega))
          exact ra_ireturn rfl (ra_okB hz178) ⟨⟨_, hz178, (x4oc_f (c := 3) (a := ta) hz178p (x4lay_3 hw h5 (by omega)) (by omega) (by omega)), rfl⟩, ⟨hF182, hk183, hk184, (by omega)⟩⟩
    · refine ra_load rfl rfl rfl rfl ?_
      refine ra_getB rfl lk_6_28 (Nat.zero_le _) sh_175 rfl ?_
      refine ra_ifeqB rfl rfl (fun h186 => ?_) (fun h186 => ?_)
      · exact ra_weak (by repeat' constructor) (l4_101_85 hE0 hq hB hN hA hnw v2 v3 hv2 hv3 hw h5 (show (v2 = 1 → r 101 ≠ 1) ∧ (v2 = 0 → v3 = 1 → r 102 ≠ 1) ∧ (v2 = 0 → v3 = 0 → r 103 ≠ 1) by omega))
      · refine ra_goto rfl rfl ?_
        refine ra_load rfl rfl rfl rfl ?_
        refine ra_iconst rfl ?_
        refine ra_cQP (s4_107 (by first | omega | (unfold ra_in at *; omega))) rfl (ct_107 rfl lk_6_50 (Or.inl rfl) sh_175 (Nat.le_of_ble_eq_true rfl)) (fun z188 s187 hz188 hz188p hs187 => ?_)
        obtain ⟨hf189, hc190, he191⟩ := hs187
        have hF192 := Fr_tr (lo := 14) (hi := 177) Fr_rf hf189 (by omega)
        have hk193 : s187 (40) = σ (40) := (hf189 (40) (by omega))
        have hk194 : s187 (176) = σ (176) := hc190
        have hk195 : s187 (E0) = σ (E0) := (hf189 (E0) (by omega))
        exact ra_ireturn rfl (ra_okB hz188) ⟨⟨_, hz188, (x4oc_f (c := 3) (a := ta) hz188p (x4lay_3 hw h5 (by omega)) (by omega) (by omega)), rfl⟩, ⟨hF192, hk193, hk194, (by omega)⟩⟩
theorem s4_101 {n : Nat} {f : Nat → Int32} {d : Nat} {E0 : Nat} {σ : ra_V} (hE0 : isD E0) (hq : E0 = 14) (hB : x4TB σ B bn) (hN : x4NXC B bn σ ta) (hA : x4AR r σ E0) (hnw : ¬ tx_isw B bn ta ['p', 'a', 'r', 't'] = true ∧ ¬ tx_isw B bn ta ['l', 'o', 'c', 'k'] = true ∧ ¬ tx_isw B bn ta ['c', 'h', 'u', 'n', 'k'] = true) : ra_C (g_Gs n f) g_sh 0 (d + 7) 101 [.index (175), .index (E0)] σ (fun r9 s => (∃ z : Int, (z = 0 ∨ z = 1) ∧ (x4OC bn s E0 z (tx_stmt B bn r ta)) ∧ r9 = .inl (some (ra_I z))) ∧ Fr (14) (177) σ s ∧ s (40) = σ (40) ∧ s (176) = σ (176) ∧ ra_g s 175 1 = ra_g σ 175 1) := by
  refine ra_enter (nn := 2) mt_101 rfl (Nat.le_of_ble_eq_true rfl) rfl (fun h => absurd h (by decide +kernel)) ?_
  have hA0 := hA
  obtain ⟨a1, a2, a3, a4, a5, a6, a7⟩ := hA0
  have hN0 := hN
  obtain ⟨n1, n2, n3, n4, n5, n6, n7, n8, n9⟩ := hN0
  have hB0 := hB
  obtain ⟨b1, b2, b3, b4⟩ := hB0
  refine ra_load rfl rfl rfl rfl ?_
  refine ra_ldcS rfl lk_6_96 ?_
  refine ra_cQPp (s4_112 lk_6_96 (by decide) hB (by first | assumption | rfl | omega)) rfl (ct_112 rfl lk_6_46 (Or.inl rfl) sh_175 (Nat.le_of_ble_eq_true rfl)) (fun z2 hz2 hz2p => ?_)
  have w1 : x4IFW z2 (tx_isw B bn ta ['h', 'e', 'a', 'd'] = true) := by rw [show "head".toList = ['h', 'e', 'a', 'd'] by decide] at hz2p; exact hz2p
  clear hz2p
  refine ra_store (L' := [_, _, _, _]) rfl rfl rfl (Nat.le_of_ble_eq_true rfl) rfl ?_
  refine ra_load rfl rfl rfl rfl ?_
  refine ra_ldcS rfl lk_6_98 ?_
  refine ra_cQPp (s4_112 lk_6_98 (by decide) hB (by first | assumption | rfl | omega)) rfl (ct_112 rfl lk_6_46 (Or.inl rfl) sh_175 (Nat.le_of_ble_eq_true rfl)) (fun z4 hz4 hz4p => ?_)
  have w2 : x4IFW z4 (tx_isw B bn ta ['t', 'a', 'i', 'l'] = true) := by rw [show "tail".toList = ['t', 'a', 'i', 'l'] by decide] at hz4p; exact hz4p
  clear hz4p
  refine ra_store (L' := [_, _, _, _]) rfl rfl rfl (Nat.le_of_ble_eq_true rfl) rfl ?_
  refine ra_load rfl rfl rfl rfl ?_
  refine ra_ifne rfl rfl (ra_in01 hz2) (fun h5 => ?_) (fun h5 => ?_)
  · refine ra_load rfl rfl rfl rfl ?_
    refine ra_cTp (s4_4 hE0 a6) rfl (ct_4 rfl lk_6_102 (Or.inl rfl) (sh_D hE0) (Nat.le_of_ble_eq_true rfl)) ?_
    have hr7 : ra_in ((r 5)) := (x4SZ_in a6)
    refine ra_ifle rfl rfl hr7 (fun h8 => ?_) (fun h8 => ?_)
    · exact ra_weak (by repeat' constructor) (l4_101_44 hE0 hq hB hN hA hnw z2 z4 hz2 hz4 (by first | exact Or.inl ⟨by omega, Iff.mp w1 (by omega)⟩ | exact Or.inr (Or.inl ⟨by omega, by omega, Iff.mp w2 (by omega)⟩) | exact Or.inr (Or.inr ⟨by omega, by omega, Iff.mp w3 (by omega)⟩)) (by omega))
    · refine ra_load rfl rfl rfl rfl ?_
      refine ra_iconst rfl ?_
      refine ra_cQP (s4_107 (by first | omega | (unfold ra_in at *; omega))) rfl (ct_107 rfl lk_6_50 (Or.inl rfl) sh_175 (Nat.le_of_ble_eq_true rfl)) (fun z197 s196 hz197 hz197p hs196 => ?_)
      obtain ⟨hf198, hc199, he200⟩ := hs196
      have hF201 := Fr_tr (lo := 14) (hi := 177) Fr_rf hf198 (by omega)
      have hk202 : s196 (40) = σ (40) := (hf198 (40) (by omega))
      have hk203 : s196 (176) = σ (176) := hc199
      have hk204 : s196 (E0) = σ (E0) := (hf198 (E0) (by omega))
      exact ra_ireturn rfl (ra_okB hz197) ⟨⟨_, hz197, (x4oc_f (c := 1) (a := ta) hz197p (x4lay_1 hnw (by first | exact Or.inr (by omega) | exact Or.inl ⟨fun q => absurd (Iff.mpr w1 q) (by omega), fun q => absurd (Iff.mpr w2 q) (by omega), fun q => absurd (Iff.mpr w3 q) (by omega)⟩)) (by omega) (by omega)), rfl⟩, ⟨hF201, hk202, hk203, (by omega)⟩⟩
  · refine ra_load rfl rfl rfl rfl ?_
    refine ra_ifne rfl rfl (ra_in01 hz4) (fun h205 => ?_) (fun h205 => ?_)
    · refine ra_load rfl rfl rfl rfl ?_
      refine ra_cTp (s4_4 hE0 a6) rfl (ct_4 rfl lk_6_102 (Or.inl rfl) (sh_D hE0) (Nat.le_of_ble_eq_true rfl)) ?_
      have hr207 : ra_in ((r 5)) := (x4SZ_in a6)
      refine ra_ifle rfl rfl hr207 (fun h208 => ?_) (fun h208 => ?_)
      · exact ra_weak (by repeat' constructor) (l4_101_44 hE0 hq hB hN hA hnw z2 z4 hz2 hz4 (by first | exact Or.inl ⟨by omega, Iff.mp w1 (by omega)⟩ | exact Or.inr (Or.inl ⟨by omega, by omega, Iff.mp w2 (by omega)⟩) | exact Or.inr (Or.inr ⟨by omega, by omega, Iff.mp w3 (by omega)⟩)) (by omega))
      · refine ra_load rfl rfl rfl rfl ?_
        refine ra_iconst rfl ?_
        refine ra_cQP (s4_107 (by first | omega | (unfold ra_in at *; omega))) rfl (ct_107 rfl lk_6_50 (Or.inl rfl) sh_175 (Nat.le_of_ble_eq_true rfl)) (fun z210 s209 hz210 hz210p hs209 => ?_)
        obtain ⟨hf211, hc212, he213⟩ := hs209
        have hF214 := Fr_tr (lo := 14) (hi := 177) Fr_rf hf211 (by omega)
        have hk215 : s209 (40) = σ (40) := (hf211 (40) (by omega))
        have hk216 : s209 (176) = σ (176) := hc212
        have hk217 : s209 (E0) = σ (E0) := (hf211 (E0) (by omega))
        exact ra_ireturn rfl (ra_okB hz210) ⟨⟨_, hz210, (x4oc_f (c := 1) (a := ta) hz210p (x4lay_1 hnw (by first | exact Or.inr (by omega) | exact Or.inl ⟨fun q => absurd (Iff.mpr w1 q) (by omega), fun q => absurd (Iff.mpr w2 q) (by omega), fun q => absurd (Iff.mpr w3 q) (by omega)⟩)) (by omega) (by omega)), rfl⟩, ⟨hF214, hk215, hk216, (by omega)⟩⟩
    · refine ra_load rfl rfl rfl rfl ?_
      refine ra_ldcS rfl lk_6_100 ?_
      refine ra_cQPp (s4_112 lk_6_100 (by decide) hB (by first | assumption | rfl | omega)) rfl (ct_112 rfl lk_6_46 (Or.inl rfl) sh_175 (Nat.le_of_ble_eq_true rfl)) (fun z219 hz219 hz219p => ?_)
      have w3 : x4IFW z219 (tx_isw B bn ta ['a', 'l', 'i', 'g', 'n'] = true) := by rw [show "align".toList = ['a', 'l', 'i', 'g', 'n'] by decide] at hz219p; exact hz219p
      clear hz219p
      refine ra_ifeq rfl rfl (ra_in01 hz219) (fun h220 => ?_) (fun h220 => ?_)
      · refine ra_load rfl rfl rfl rfl ?_
        refine ra_iconst rfl ?_
        refine ra_cQP (s4_107 (by first | omega | (unfold ra_in at *; omega))) rfl (ct_107 rfl lk_6_50 (Or.inl rfl) sh_175 (Nat.le_of_ble_eq_true rfl)) (fun z222 s221 hz222 hz222p hs221 => ?_)
        obtain ⟨hf223, hc224, he225⟩ := hs221
        have hF226 := Fr_tr (lo := 14) (hi := 177) Fr_rf hf223 (by omega)
        have hk227 : s221 (40) = σ (40) := (hf223 (40) (by omega))
        have hk228 : s221 (176) = σ (176) := hc224
        have hk229 : s221 (E0) = σ (E0) := (hf223 (E0) (by omega))
        exact ra_ireturn rfl (ra_okB hz222) ⟨⟨_, hz222, (x4oc_f (c := 1) (a := ta) hz222p (x4lay_1 hnw (by first | exact Or.inr (by omega) | exact Or.inl ⟨fun q => absurd (Iff.mpr w1 q) (by omega), fun q => absurd (Iff.mpr w2 q) (by omega), fun q => absurd (Iff.mpr w3 q) (by omega)⟩)) (by omega) (by omega)), rfl⟩, ⟨hF226, hk227, hk228, (by omega)⟩⟩
      · refine ra_load rfl rfl rfl rfl ?_
        refine ra_cTp (s4_4 hE0 a6) rfl (ct_4 rfl lk_6_102 (Or.inl rfl) (sh_D hE0) (Nat.le_of_ble_eq_true rfl)) ?_
        have hr231 : ra_in ((r 5)) := (x4SZ_in a6)
        refine ra_ifle rfl rfl hr231 (fun h232 => ?_) (fun h232 => ?_)
        · exact ra_weak (by repeat' constructor) (l4_101_44 hE0 hq hB hN hA hnw z2 z4 hz2 hz4 (by first | exact Or.inl ⟨by omega, Iff.mp w1 (by omega)⟩ | exact Or.inr (Or.inl ⟨by omega, by omega, Iff.mp w2 (by omega)⟩) | exact Or.inr (Or.inr ⟨by omega, by omega, Iff.mp w3 (by omega)⟩)) (by omega))
        · refine ra_load rfl rfl rfl rfl ?_
          refine ra_iconst rfl ?_
          refine ra_cQP (s4_107 (by first | omega | (unfold ra_in at *; omega))) rfl (ct_107 rfl lk_6_50 (Or.inl rfl) sh_175 (Nat.le_of_ble_eq_true rfl)) (fun z234 s233 hz234 hz234p hs233 => ?_)
          obtain ⟨hf235, hc236, he237⟩ := hs233
          have hF238 := Fr_tr (lo := 14) (hi := 177) Fr_rf hf235 (by omega)
          have hk239 : s233 (40) = σ (40) := (hf235 (40) (by omega))
          have hk240 : s233 (176) = σ (176) := hc236
          have hk241 : s233 (E0) = σ (E0) := (hf235 (E0) (by omega))
          exact ra_ireturn rfl (ra_okB hz234) ⟨⟨_, hz234, (x4oc_f (c := 1) (a := ta) hz234p (x4lay_1 hnw (by first | exact Or.inr (by omega) | exact Or.inl ⟨fun q => absurd (Iff.mpr w1 q) (by omega), fun q => absurd (Iff.mpr w2 q) (by omega), fun q => absurd (Iff.mpr w3 q) (by omega)⟩)) (by omega) (by omega)), rfl⟩, ⟨hF238, hk239, hk240, (by omega)⟩⟩
theorem s4_100 {n : Nat} {f : Nat → Int32} {d : Nat} {E0 : Nat} {σ : ra_V} (hE0 : isD E0) (hq : E0 = 14) (hB : x4TB σ B bn) (hN : x4NXC B bn σ ta) (hA : x4AR r σ E0) : ra_C (g_Gs n f) g_sh 0 (d + 8) 100 [.index (175), .index (E0)] σ (fun r9 s => (∃ z : Int, (z = 0 ∨ z = 1) ∧ (x4OC bn s E0 z (tx_ps B bn (tx_stmt B bn r ta))) ∧ r9 = .inl (some (ra_I z))) ∧ Fr (14) (177) σ s ∧ s (40) = σ (40) ∧ s (176) = σ (176) ∧ ra_g s 175 1 = ra_g σ 175 1) := by
  refine ra_enter (nn := 0) mt_100 rfl (Nat.le_of_ble_eq_true rfl) rfl (fun h => absurd h (by decide +kernel)) ?_
  have hA0 := hA
  obtain ⟨a1, a2, a3, a4, a5, a6, a7⟩ := hA0
  have hN0 := hN
  obtain ⟨n1, n2, n3, n4, n5, n6, n7, n8, n9⟩ := hN0
  have hB0 := hB
  obtain ⟨b1, b2, b3, b4⟩ := hB0
  refine ra_load rfl rfl rfl rfl ?_
  refine ra_ldcS rfl lk_6_78 ?_
  refine ra_cQPp (s4_112 lk_6_78 (by decide) hB (by first | assumption | rfl | omega)) rfl (ct_112 rfl lk_6_46 (Or.inl rfl) sh_175 (Nat.le_of_ble_eq_true rfl)) (fun z2 hz2 hz2p => ?_)
  have w1 : x4IFW z2 (tx_isw B bn ta ['p', 'a', 'r', 't'] = true) := by rw [show "part".toList = ['p', 'a', 'r', 't'] by decide] at hz2p; exact hz2p
  clear hz2p
  refine ra_ifeq rfl rfl (ra_in01 hz2) (fun h3 => ?_) (fun h3 => ?_)
  · refine ra_load rfl rfl rfl rfl ?_
    refine ra_ldcS rfl lk_6_83 ?_
    refine ra_cQPp (s4_112 lk_6_83 (by decide) hB (by first | assumption | rfl | omega)) rfl (ct_112 rfl lk_6_46 (Or.inl rfl) sh_175 (Nat.le_of_ble_eq_true rfl)) (fun z5 hz5 hz5p => ?_)
    have w2 : x4IFW z5 (tx_isw B bn ta ['l', 'o', 'c', 'k'] = true) := by rw [show "lock".toList = ['l', 'o', 'c', 'k'] by decide] at hz5p; exact hz5p
    clear hz5p
    refine ra_ifeq rfl rfl (ra_in01 hz5) (fun h6 => ?_) (fun h6 => ?_)
    · refine ra_load rfl rfl rfl rfl ?_
      refine ra_ldcS rfl lk_6_88 ?_
      refine ra_cQPp (s4_112 lk_6_88 (by decide) hB (by first | assumption | rfl | omega)) rfl (ct_112 rfl lk_6_46 (Or.inl rfl) sh_175 (Nat.le_of_ble_eq_true rfl)) (fun z8 hz8 hz8p => ?_)
      have w3 : x4IFW z8 (tx_isw B bn ta ['c', 'h', 'u', 'n', 'k'] = true) := by rw [show "chunk".toList = ['c', 'h', 'u', 'n', 'k'] by decide] at hz8p; exact hz8p
      clear hz8p
      refine ra_ifeq rfl rfl (ra_in01 hz8) (fun h9 => ?_) (fun h9 => ?_)
      · refine ra_load rfl rfl rfl rfl ?_
        refine ra_load rfl rfl rfl rfl ?_
        refine ra_cQPs (s4_101 hE0 (by first | assumption | rfl | omega) hB (by first | assumption | rfl | omega) (by first | assumption | rfl | omega) ⟨fun q => absurd (Iff.mpr w1 q) (by omega), fun q => absurd (Iff.mpr w2 q) (by omega), fun q => absurd (Iff.mpr w3 q) (by omega)⟩) rfl (ct_101 rfl lk_6_93 (Or.inl rfl) sh_175 (Nat.le_of_ble_eq_true rfl)) (fun z11 s10 hz11 hz11p hs10 => ?_)
        obtain ⟨hf12, hc13, hc14, he15⟩ := hs10
        have hF16 := Fr_tr (lo := 14) (hi := 177) Fr_rf hf12 (by omega)
        have hk17 : s10 (40) = σ (40) := hc13
        have hk18 : s10 (176) = σ (176) := hc14
        refine ra_ifeq rfl rfl (ra_in01 hz11) (fun h19 => ?_) (fun h19 => ?_)
        · refine ra_iconst rfl ?_
          exact ra_ireturn rfl (ra_okB (Or.inl rfl)) ⟨⟨_, (Or.inl rfl), (by exact x4ps_n hz11p (by omega) rfl), rfl⟩, ⟨hF16, hk17, hk18, (by omega)⟩⟩
        · obtain ⟨-, r2, e2, ho2, hA2, hp2, he2⟩ := hz11p.resolve_right (fun q => by omega)
          refine ra_load rfl rfl rfl rfl ?_
          refine ra_cQPs (s4_105 (x4TB_k (by omega) hk18 hB) (show ra_g s10 175 4 = ((e2 : Nat) : Int) from (by omega)) (by omega)) rfl (ct_105 rfl lk_6_67 (Or.inl rfl) sh_175 (Nat.le_of_ble_eq_true rfl)) (fun z21 s20 hz21 hz21p hs20 => ?_)
          obtain ⟨hf22, hc23, he24⟩ := hs20
          have hF25 := Fr_tr (lo := 14) (hi := 177) hF16 hf22 (by omega)
          have hk26 : s20 (40) = σ (40) := (hf22 (40) (by omega)).trans hk17
          have hk27 : s20 (176) = σ (176) := hc23.trans hk18
          refine ra_ifeq rfl rfl (ra_in01 hz21) (fun h28 => ?_) (fun h28 => ?_)
          · refine ra_iconst rfl ?_
            exact ra_ireturn rfl (ra_okB (Or.inl rfl)) ⟨⟨_, (Or.inl rfl), (by exact x4ps_f ho2 hz21p (by omega) rfl), rfl⟩, ⟨hF25, hk26, hk27, (by omega)⟩⟩
          · refine ra_iconst rfl ?_
            refine ra_goto rfl rfl ?_
            exact ra_ireturn rfl (ra_okB (Or.inr rfl)) ⟨⟨_, (Or.inr rfl), (by exact x4ps_y ho2 hA2 hz21p (by omega) rfl (fun j hj => hf22 (E0 + j) (by omega)) (by omega)), rfl⟩, ⟨hF25, hk26, hk27, (by omega)⟩⟩
      · refine ra_load rfl rfl rfl rfl ?_
        refine ra_load rfl rfl rfl rfl ?_
        refine ra_cQPs (s4_102 hE0 (by first | assumption | rfl | omega) hB (by first | assumption | rfl | omega) (by first | assumption | rfl | omega)) rfl (ct_102 rfl lk_6_90 (Or.inl rfl) sh_175 (Nat.le_of_ble_eq_true rfl)) (fun z30 s29 hz30 hz30p hs29 => ?_)
        obtain ⟨hf31, hc32, hc33, he34⟩ := hs29
        have hF35 := Fr_tr (lo := 14) (hi := 177) Fr_rf hf31 (by omega)
        have hk36 : s29 (40) = σ (40) := hc32
        have hk37 : s29 (176) = σ (176) := hc33
        refine ra_ifeq rfl rfl (ra_in01 hz30) (fun h38 => ?_) (fun h38 => ?_)
        · refine ra_iconst rfl ?_
          exact ra_ireturn rfl (ra_okB (Or.inl rfl)) ⟨⟨_, (Or.inl rfl), (by rw [x4stm_chunk (Iff.mp w3 (by omega))]; exact x4ps_n hz30p (by omega) rfl), rfl⟩, ⟨hF35, hk36, hk37, (by omega)⟩⟩
        · obtain ⟨-, r2, e2, ho2, hA2, hp2, he2⟩ := hz30p.resolve_right (fun q => by omega)
          refine ra_load rfl rfl rfl rfl ?_
          refine ra_cQPs (s4_105 (x4TB_k (by omega) hk37 hB) (show ra_g s29 175 4 = ((e2 : Nat) : Int) from (by omega)) (by omega)) rfl (ct_105 rfl lk_6_67 (Or.inl rfl) sh_175 (Nat.le_of_ble_eq_true rfl)) (fun z40 s39 hz40 hz40p hs39 => ?_)
          obtain ⟨hf41, hc42, he43⟩ := hs39
          have hF44 := Fr_tr (lo := 14) (hi := 177) hF35 hf41 (by omega)
          have hk45 : s39 (40) = σ (40) := (hf41 (40) (by omega)).trans hk36
          have hk46 : s39 (176) = σ (176) := hc42.trans hk37
          refine ra_ifeq rfl rfl (ra_in01 hz40) (fun h47 => ?_) (fun h47 => ?_)
          · refine ra_iconst rfl ?_
            exact ra_ireturn rfl (ra_okB (Or.inl rfl)) ⟨⟨_, (Or.inl rfl), (by rw [x4stm_chunk (Iff.mp w3 (by omega))]; exact x4ps_f ho2 hz40p (by omega) rfl), rfl⟩, ⟨hF44, hk45, hk46, (by omega)⟩⟩
          · refine ra_iconst rfl ?_
            refine ra_goto rfl rfl ?_
            exact ra_ireturn rfl (ra_okB (Or.inr rfl)) ⟨⟨_, (Or.inr rfl), (by rw [x4stm_chunk (Iff.mp w3 (by omega))]; exact x4ps_y ho2 hA2 hz40p (by omega) rfl (fun j hj => hf41 (E0 + j) (by omega)) (by omega)), rfl⟩, ⟨hF44, hk45, hk46, (by omega)⟩⟩
    · refine ra_load rfl rfl rfl rfl ?_
      refine ra_load rfl rfl rfl rfl ?_
      refine ra_cQPs (s4_104 hE0 (by first | assumption | rfl | omega) hB (by first | assumption | rfl | omega) (by first | assumption | rfl | omega)) rfl (ct_104 rfl lk_6_85 (Or.inl rfl) sh_175 (Nat.le_of_ble_eq_true rfl)) (fun z49 s48 hz49 hz49p hs48 => ?_)
      obtain ⟨hf50, hc51, hc52, he53⟩ := hs48
      have hF54 := Fr_tr (lo := 14) (hi := 177) Fr_rf hf50 (by omega)
      have hk55 : s48 (40) = σ (40) := hc51
      have hk56 : s48 (176) = σ (176) := hc52
      refine ra_ifeq rfl rfl (ra_in01 hz49) (fun h57 => ?_) (fun h57 => ?_)
      · refine ra_iconst rfl ?_
        exact ra_ireturn rfl (ra_okB (Or.inl rfl)) ⟨⟨_, (Or.inl rfl), (by rw [x4stm_lock (Iff.mp w2 (by omega))]; exact x4ps_n hz49p (by omega) rfl), rfl⟩, ⟨hF54, hk55, hk56, (by omega)⟩⟩
      · obtain ⟨-, r2, e2, ho2, hA2, hp2, he2⟩ := hz49p.resolve_right (fun q => by omega)
        refine ra_load rfl rfl rfl rfl ?_
        refine ra_cQPs (s4_105 (x4TB_k (by omega) hk56 hB) (show ra_g s48 175 4 = ((e2 : Nat) : Int) from (by omega)) (by omega)) rfl (ct_105 rfl lk_6_67 (Or.inl rfl) sh_175 (Nat.le_of_ble_eq_true rfl)) (fun z59 s58 hz59 hz59p hs58 => ?_)
        obtain ⟨hf60, hc61, he62⟩ := hs58
        have hF63 := Fr_tr (lo := 14) (hi := 177) hF54 hf60 (by omega)
        have hk64 : s58 (40) = σ (40) := (hf60 (40) (by omega)).trans hk55
        have hk65 : s58 (176) = σ (176) := hc61.trans hk56
        refine ra_ifeq rfl rfl (ra_in01 hz59) (fun h66 => ?_) (fun h66 => ?_)
        · refine ra_iconst rfl ?_
          exact ra_ireturn rfl (ra_okB (Or.inl rfl)) ⟨⟨_, (Or.inl rfl), (by rw [x4stm_lock (Iff.mp w2 (by omega))]; exact x4ps_f ho2 hz59p (by omega) rfl), rfl⟩, ⟨hF63, hk64, hk65, (by omega)⟩⟩
        · refine ra_iconst rfl ?_
          refine ra_goto rfl rfl ?_
          exact ra_ireturn rfl (ra_okB (Or.inr rfl)) ⟨⟨_, (Or.inr rfl), (by rw [x4stm_lock (Iff.mp w2 (by omega))]; exact x4ps_y ho2 hA2 hz59p (by omega) rfl (fun j hj => hf60 (E0 + j) (by omega)) (by omega)), rfl⟩, ⟨hF63, hk64, hk65, (by omega)⟩⟩
  · refine ra_load rfl rfl rfl rfl ?_
    refine ra_load rfl rfl rfl rfl ?_
    refine ra_cQPs (s4_103 hE0 (by first | assumption | rfl | omega) hB (by first | assumption | rfl | omega) (by first | assumption | rfl | omega)) rfl (ct_103 rfl lk_6_80 (Or.inl rfl) sh_175 (Nat.le_of_ble_eq_true rfl)) (fun z68 s67 hz68 hz68p hs67 => ?_)
    obtain ⟨hf69, hc70, hc71, he72⟩ := hs67
    have hF73 := Fr_tr (lo := 14) (hi := 177) Fr_rf hf69 (by omega)
    have hk74 : s67 (40) = σ (40) := hc70
    have hk75 : s67 (176) = σ (176) := hc71
    refine ra_ifeq rfl rfl (ra_in01 hz68) (fun h76 => ?_) (fun h76 => ?_)
    · refine ra_iconst rfl ?_
      exact ra_ireturn rfl (ra_okB (Or.inl rfl)) ⟨⟨_, (Or.inl rfl), (by rw [x4stm_part (Iff.mp w1 (by omega))]; exact x4ps_n hz68p (by omega) rfl), rfl⟩, ⟨hF73, hk74, hk75, (by omega)⟩⟩
    · obtain ⟨-, r2, e2, ho2, hA2, hp2, he2⟩ := hz68p.resolve_right (fun q => by omega)
      refine ra_load rfl rfl rfl rfl ?_
      refine ra_cQPs (s4_105 (x4TB_k (by omega) hk75 hB) (show ra_g s67 175 4 = ((e2 : Nat) : Int) from (by omega)) (by omega)) rfl (ct_105 rfl lk_6_67 (Or.inl rfl) sh_175 (Nat.le_of_ble_eq_true rfl)) (fun z78 s77 hz78 hz78p hs77 => ?_)
      obtain ⟨hf79, hc80, he81⟩ := hs77
      have hF82 := Fr_tr (lo := 14) (hi := 177) hF73 hf79 (by omega)
      have hk83 : s77 (40) = σ (40) := (hf79 (40) (by omega)).trans hk74
      have hk84 : s77 (176) = σ (176) := hc80.trans hk75
      refine ra_ifeq rfl rfl (ra_in01 hz78) (fun h85 => ?_) (fun h85 => ?_)
      · refine ra_iconst rfl ?_
        exact ra_ireturn rfl (ra_okB (Or.inl rfl)) ⟨⟨_, (Or.inl rfl), (by rw [x4stm_part (Iff.mp w1 (by omega))]; exact x4ps_f ho2 hz78p (by omega) rfl), rfl⟩, ⟨hF82, hk83, hk84, (by omega)⟩⟩
      · refine ra_iconst rfl ?_
        refine ra_goto rfl rfl ?_
        exact ra_ireturn rfl (ra_okB (Or.inr rfl)) ⟨⟨_, (Or.inr rfl), (by rw [x4stm_part (Iff.mp w1 (by omega))]; exact x4ps_y ho2 hA2 hz78p (by omega) rfl (fun j hj => hf79 (E0 + j) (by omega)) (by omega)), rfl⟩, ⟨hF82, hk83, hk84, (by omega)⟩⟩
end
