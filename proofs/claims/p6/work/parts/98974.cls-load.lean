/-! T4: what the class's methods that read a text do (printed by wip/gen/c4.py) -/
section
variable {B : Nat → Int} {bn ps ta : Nat} {pk uv al : Int} {r : Nat → Int}
theorem l4_99_83 {n : Nat} {f : Nat → Int32} {d : Nat} {E0 : Nat} {σ : ra_V} (hE0 : isD E0) (hq : E0 = 14) (hB : x4TB σ B bn) : ∀ (nn : Nat) (v2 : Int) (v3 : Int) (s : ra_V) (hv2 : v2 = 0 ∨ v2 = 1) (hv3_0 : 0 ≤ v3) (hv3_1 : v3 ≤ 500) (hF : Fr (14) (177) σ s) (hk0 : s (40) = σ (40)) (hk1 : s (176) = σ (176)) (hl1 : ra_g s 175 1 = ra_g σ 175 1) (hL : x4LI B bn s E0 v2 v3) (hm : ((500 - v3 : Int)).toNat < nn), ra_P (g_Gs n f) g_sh 0 (d + 8) g_m_X6_parseInto 83 [some (.index (175)), some (.index (E0)), some (ra_I v2), some (ra_I v3)] [] s (fun r9 s => (∃ z : Int, (z = 0 ∨ z = 1) ∧ (x4PO s E0 z (tx_text B bn)) ∧ r9 = .inl (some (ra_I z))) ∧ Fr (14) (177) σ s ∧ s (40) = σ (40) ∧ s (176) = σ (176) ∧ ra_g s 175 1 = ra_g σ 175 1) := by
  intro nn
  induction nn with
  | zero => intro v2 v3 s hv2 hv3_0 hv3_1 hF hk0 hk1 hl1 hL hm; exact absurd hm (Nat.not_lt_zero _)
  | succ nn ih =>
    intro v2 v3 s hv2 hv3_0 hv3_1 hF hk0 hk1 hl1 hL hm
    have hB0 := hB
    obtain ⟨b1, b2, b3, b4⟩ := hB0
    refine ra_load rfl rfl rfl rfl ?_
    refine ra_ifeq rfl rfl (ra_in01 hv2) (fun h72 => ?_) (fun h72 => ?_)
    · refine ra_load rfl rfl rfl rfl ?_
      exact ra_ireturn rfl (ra_okB hv2) ⟨⟨_, hv2, (x4po_l hL (by omega)), rfl⟩, ⟨hF, hk0, hk1, (by omega)⟩⟩
    · refine ra_load rfl rfl rfl rfl ?_
      refine ra_sipush rfl (by decide) ?_
      refine ra_icge rfl rfl (by first | omega | (unfold ra_in at *; omega)) (by first | omega | (unfold ra_in at *; omega)) (fun h73 => ?_) (fun h73 => ?_)
      · refine ra_load rfl rfl rfl rfl ?_
        exact ra_ireturn rfl (ra_okB hv2) ⟨⟨_, hv2, (x4po_l hL (by omega)), rfl⟩, ⟨hF, hk0, hk1, (by omega)⟩⟩
      · obtain ⟨-, r1, e1, ht1, hA1, hp1, he1⟩ := hL.resolve_right (fun q => by omega)
        refine ra_load rfl rfl rfl rfl ?_
        refine ra_cV (s4_111 (x4TB_k (by omega) hk1 hB) hp1 (by omega)) rfl (ct_111 rfl lk_6_41 (Or.inl rfl) sh_175 (Nat.le_of_ble_eq_true rfl)) (fun s74 hs74 => ?_)
        obtain ⟨hf75, hc76, he77, he78⟩ := hs74
        have hF79 := Fr_tr (lo := 14) (hi := 177) hF hf75 (by omega)
        have hk80 : s74 (40) = σ (40) := (hf75 (40) (by omega)).trans hk0
        have hk81 : s74 (176) = σ (176) := hc76.trans hk1
        have hA3 := x4AR_k (fun j hj => hf75 (E0 + j) (by omega)) (by omega) hA1
        have hN3 := he78
        obtain ⟨n1, n2, n3, n4, n5, n6, n7, n8, n9⟩ := hN3
        refine ra_load rfl rfl rfl rfl ?_
        refine ra_getI rfl lk_6_71 (Nat.zero_le _) sh_175 rfl ?_
        have hr82 : ra_in (ra_g s74 (175) 5) := (ra_in_g _ _ _)
        refine ra_ifne rfl rfl hr82 (fun h83 => ?_) (fun h83 => ?_)
        · refine ra_load rfl rfl rfl rfl ?_
          refine ra_load rfl rfl rfl rfl ?_
          refine ra_cQPs (s4_100 hE0 (by first | assumption | rfl | omega) (x4TB_k (by omega) hk81 hB) he78 hA3) rfl (ct_100 rfl lk_6_74 (Or.inl rfl) sh_175 (Nat.le_of_ble_eq_true rfl)) (fun z85 s84 hz85 hz85p hs84 => ?_)
          obtain ⟨hf86, hc87, hc88, he89⟩ := hs84
          have hF90 := Fr_tr (lo := 14) (hi := 177) hF79 hf86 (by omega)
          have hk91 : s84 (40) = σ (40) := hc87.trans hk80
          have hk92 : s84 (176) = σ (176) := hc88.trans hk81
          refine ra_store (L' := [_, _, _, _]) rfl rfl rfl (Nat.le_of_ble_eq_true rfl) rfl ?_
          refine ra_iinc (L' := [_, _, _, _]) rfl rfl (Nat.le_of_ble_eq_true rfl) rfl ?_
          refine ra_goto rfl rfl ?_
          exact ra_weak (by repeat' constructor) (ih z85 (v3 + 1) s84 hz85 (by first | omega | (unfold ra_in at *; omega)) (by first | omega | (unfold ra_in at *; omega)) hF90 hk91 hk92 (by omega) (x4li_s hz85p ht1 (by omega) (by omega)) (by first | omega | (unfold ra_in at *; omega)))
        · refine ra_iconst rfl ?_
          exact ra_ireturn rfl (ra_okB (Or.inr rfl)) ⟨⟨_, (Or.inr rfl), (x4po_e ht1 hA3 rfl (by omega)), rfl⟩, ⟨hF79, hk80, hk81, (by omega)⟩⟩
theorem s4_99 {n : Nat} {f : Nat → Int32} {d : Nat} {E0 : Nat} {σ : ra_V} (hE0 : isD E0) (hq : E0 = 14) (hB : x4TB σ B bn) : ra_C (g_Gs n f) g_sh 0 (d + 9) 99 [.index (175), .index (E0)] σ (fun r9 s => (∃ z : Int, (z = 0 ∨ z = 1) ∧ (x4PO s E0 z (tx_text B bn)) ∧ r9 = .inl (some (ra_I z))) ∧ Fr (14) (177) σ s ∧ s (40) = σ (40) ∧ s (176) = σ (176) ∧ ra_g s 175 1 = ra_g σ 175 1) := by
  refine ra_enter (nn := 2) mt_99 rfl (Nat.le_of_ble_eq_true rfl) rfl (fun h => absurd h (by decide +kernel)) ?_
  have hB0 := hB
  obtain ⟨b1, b2, b3, b4⟩ := hB0
  refine ra_load rfl rfl rfl rfl ?_
  refine ra_iconst rfl ?_
  refine ra_putI rfl lk_6_15 (Nat.zero_le _) sh_175 rfl rfl ?_
  refine ra_newU (by first | omega | (unfold ra_in at *; omega)) (fun s1 hs1 hp2 hp2o => ?_)
  have hp2_1 := hp2o 1 (by decide)
  have hp2_3 := hp2o 3 (by decide)
  have hp2_4 := hp2o 4 (by decide)
  have hp2_5 := hp2o 5 (by decide)
  have hp2_6 := hp2o 6 (by decide)
  have hp2_7 := hp2o 7 (by decide)
  have hp2_8 := hp2o 8 (by decide)
  have hp2_9 := hp2o 9 (by decide)
  have hp2_10 := hp2o 10 (by decide)
  have hp2_11 := hp2o 11 (by decide)
  have hF3 := Fr_tr (lo := 14) (hi := 177) Fr_rf hs1 (by omega)
  have hk4 : s1 (40) = σ (40) := (hs1 (40) (by omega))
  have hk5 : s1 (176) = σ (176) := (hs1 (176) (by omega))
  refine ra_load rfl rfl rfl rfl ?_
  refine ra_iconst rfl ?_
  refine ra_putI rfl lk_6_19 (Nat.zero_le _) sh_175 rfl rfl ?_
  refine ra_newU (by first | omega | (unfold ra_in at *; omega)) (fun s6 hs6 hp7 hp7o => ?_)
  have hp7_1 := hp7o 1 (by decide)
  have hp7_2 := hp7o 2 (by decide)
  have hp7_4 := hp7o 4 (by decide)
  have hp7_5 := hp7o 5 (by decide)
  have hp7_6 := hp7o 6 (by decide)
  have hp7_7 := hp7o 7 (by decide)
  have hp7_8 := hp7o 8 (by decide)
  have hp7_9 := hp7o 9 (by decide)
  have hp7_10 := hp7o 10 (by decide)
  have hp7_11 := hp7o 11 (by decide)
  have hF8 := Fr_tr (lo := 14) (hi := 177) hF3 hs6 (by omega)
  have hk9 : s6 (40) = σ (40) := (hs6 (40) (by omega)).trans hk4
  have hk10 : s6 (176) = σ (176) := (hs6 (176) (by omega)).trans hk5
  refine ra_load rfl rfl rfl rfl ?_
  refine ra_iconst rfl ?_
  refine ra_putI rfl lk_6_25 (Nat.zero_le _) sh_175 rfl rfl ?_
  refine ra_newU (by first | omega | (unfold ra_in at *; omega)) (fun s11 hs11 hp12 hp12o => ?_)
  have hp12_1 := hp12o 1 (by decide)
  have hp12_2 := hp12o 2 (by decide)
  have hp12_3 := hp12o 3 (by decide)
  have hp12_5 := hp12o 5 (by decide)
  have hp12_6 := hp12o 6 (by decide)
  have hp12_7 := hp12o 7 (by decide)
  have hp12_8 := hp12o 8 (by decide)
  have hp12_9 := hp12o 9 (by decide)
  have hp12_10 := hp12o 10 (by decide)
  have hp12_11 := hp12o 11 (by decide)
  have hF13 := Fr_tr (lo := 14) (hi := 177) hF8 hs11 (by omega)
  have hk14 : s11 (40) = σ (40) := (hs11 (40) (by omega)).trans hk9
  have hk15 : s11 (176) = σ (176) := (hs11 (176) (by omega)).trans hk10
  refine ra_load rfl rfl rfl rfl ?_
  refine ra_iconst rfl ?_
  refine ra_putB rfl lk_6_28 (Nat.zero_le _) sh_175 rfl rfl (Or.inl rfl) ?_
  refine ra_newU (ra_in01 (Or.inl rfl)) (fun s16 hs16 hp17 hp17o => ?_)
  have hp17_1 := hp17o 1 (by decide)
  have hp17_2 := hp17o 2 (by decide)
  have hp17_3 := hp17o 3 (by decide)
  have hp17_4 := hp17o 4 (by decide)
  have hp17_5 := hp17o 5 (by decide)
  have hp17_6 := hp17o 6 (by decide)
  have hp17_7 := hp17o 7 (by decide)
  have hp17_9 := hp17o 9 (by decide)
  have hp17_10 := hp17o 10 (by decide)
  have hp17_11 := hp17o 11 (by decide)
  have hF18 := Fr_tr (lo := 14) (hi := 177) hF13 hs16 (by omega)
  have hk19 : s16 (40) = σ (40) := (hs16 (40) (by omega)).trans hk14
  have hk20 : s16 (176) = σ (176) := (hs16 (176) (by omega)).trans hk15
  refine ra_load rfl rfl rfl rfl ?_
  refine ra_iconst rfl ?_
  refine ra_putB rfl lk_6_32 (Nat.zero_le _) sh_175 rfl rfl (Or.inl rfl) ?_
  refine ra_newU (ra_in01 (Or.inl rfl)) (fun s21 hs21 hp22 hp22o => ?_)
  have hp22_1 := hp22o 1 (by decide)
  have hp22_2 := hp22o 2 (by decide)
  have hp22_3 := hp22o 3 (by decide)
  have hp22_4 := hp22o 4 (by decide)
  have hp22_5 := hp22o 5 (by decide)
  have hp22_6 := hp22o 6 (by decide)
  have hp22_7 := hp22o 7 (by decide)
  have hp22_8 := hp22o 8 (by decide)
  have hp22_10 := hp22o 10 (by decide)
  have hp22_11 := hp22o 11 (by decide)
  have hF23 := Fr_tr (lo := 14) (hi := 177) hF18 hs21 (by omega)
  have hk24 : s21 (40) = σ (40) := (hs21 (40) (by omega)).trans hk19
  have hk25 : s21 (176) = σ (176) := (hs21 (176) (by omega)).trans hk20
  refine ra_load rfl rfl rfl rfl ?_
  refine ra_iconst rfl ?_
  refine ra_putB rfl lk_6_35 (Nat.zero_le _) sh_175 rfl rfl (Or.inl rfl) ?_
  refine ra_newU (ra_in01 (Or.inl rfl)) (fun s26 hs26 hp27 hp27o => ?_)
  have hp27_1 := hp27o 1 (by decide)
  have hp27_2 := hp27o 2 (by decide)
  have hp27_3 := hp27o 3 (by decide)
  have hp27_4 := hp27o 4 (by decide)
  have hp27_5 := hp27o 5 (by decide)
  have hp27_6 := hp27o 6 (by decide)
  have hp27_7 := hp27o 7 (by decide)
  have hp27_8 := hp27o 8 (by decide)
  have hp27_9 := hp27o 9 (by decide)
  have hp27_11 := hp27o 11 (by decide)
  have hF28 := Fr_tr (lo := 14) (hi := 177) hF23 hs26 (by omega)
  have hk29 : s26 (40) = σ (40) := (hs26 (40) (by omega)).trans hk24
  have hk30 : s26 (176) = σ (176) := (hs26 (176) (by omega)).trans hk25
  refine ra_load rfl rfl rfl rfl ?_
  refine ra_iconst rfl ?_
  refine ra_putB rfl lk_6_38 (Nat.zero_le _) sh_175 rfl rfl (Or.inl rfl) ?_
  refine ra_newU (ra_in01 (Or.inl rfl)) (fun s31 hs31 hp32 hp32o => ?_)
  have hp32_1 := hp32o 1 (by decide)
  have hp32_2 := hp32o 2 (by decide)
  have hp32_3 := hp32o 3 (by decide)
  have hp32_4 := hp32o 4 (by decide)
  have hp32_5 := hp32o 5 (by decide)
  have hp32_6 := hp32o 6 (by decide)
  have hp32_7 := hp32o 7 (by decide)
  have hp32_8 := hp32o 8 (by decide)
  have hp32_9 := hp32o 9 (by decide)
  have hp32_10 := hp32o 10 (by decide)
  have hF33 := Fr_tr (lo := 14) (hi := 177) hF28 hs31 (by omega)
  have hk34 : s31 (40) = σ (40) := (hs31 (40) (by omega)).trans hk29
  have hk35 : s31 (176) = σ (176) := (hs31 (176) (by omega)).trans hk30
  refine ra_load rfl rfl rfl rfl ?_
  refine ra_cV (s4_111 (x4TB_k (by omega) hk35 hB) (show ra_g s31 175 4 = ((0 : Nat) : Int) by omega) (by omega)) rfl (ct_111 rfl lk_6_41 (Or.inl rfl) sh_175 (Nat.le_of_ble_eq_true rfl)) (fun s36 hs36 => ?_)
  obtain ⟨hf37, hc38, he39, he40⟩ := hs36
  have hF41 := Fr_tr (lo := 14) (hi := 177) hF33 hf37 (by omega)
  have hk42 : s36 (40) = σ (40) := (hf37 (40) (by omega)).trans hk34
  have hk43 : s36 (176) = σ (176) := hc38.trans hk35
  have hN1 := he40
  obtain ⟨n1, n2, n3, n4, n5, n6, n7, n8, n9⟩ := hN1
  refine ra_load rfl rfl rfl rfl ?_
  refine ra_ldcS rfl lk_6_44 ?_
  refine ra_cQPp (s4_112 lk_6_44 (by decide) (x4TB_k (by omega) hk43 hB) he40) rfl (ct_112 rfl lk_6_46 (Or.inl rfl) sh_175 (Nat.le_of_ble_eq_true rfl)) (fun z45 hz45 hz45p => ?_)
  have w1 : x4IFW z45 (tx_isw B bn (tx_a B bn 0) ['d', 'i', 's', 'k'] = true) := by rw [show "disk".toList = ['d', 'i', 's', 'k'] by decide] at hz45p; exact hz45p
  clear hz45p
  refine ra_ifne rfl rfl (ra_in01 hz45) (fun h46 => ?_) (fun h46 => ?_)
  · refine ra_load rfl rfl rfl rfl ?_
    refine ra_bipush rfl (by decide) ?_
    refine ra_sipush rfl (by decide) ?_
    refine ra_cQPs (s4_106 (by first | omega | (unfold ra_in at *; omega)) (by first | omega | (unfold ra_in at *; omega)) (x4TB_k (by omega) hk43 hB) (show ra_g s36 175 4 = ((tx_e B bn (tx_a B bn 0) : Nat) : Int) by omega) (by omega)) rfl (ct_106 rfl lk_6_54 (Or.inl rfl) sh_175 (Nat.le_of_ble_eq_true rfl)) (fun z48 s47 hz48 hz48p hs47 => ?_)
    obtain ⟨hf49, hc50, he51⟩ := hs47
    have hF52 := Fr_tr (lo := 14) (hi := 177) hF41 hf49 (by omega)
    have hk53 : s47 (40) = σ (40) := (hf49 (40) (by omega)).trans hk42
    have hk54 : s47 (176) = σ (176) := hc50.trans hk43
    refine ra_ifne rfl rfl (ra_in01 hz48) (fun h55 => ?_) (fun h55 => ?_)
    · obtain ⟨-, v1_, e1, hr1, rfl, hp1, he1, hl1, hu1, hk1, hk1b, hn1⟩ := hz48p.resolve_right (fun q => by omega)
      refine ra_load rfl rfl rfl rfl ?_
      refine ra_load rfl rfl rfl rfl ?_
      refine ra_getI rfl lk_6_58 (Nat.zero_le _) sh_175 rfl ?_
      have hr56 : ra_in (ra_g s47 (175) 7) := (ra_in_g _ _ _)
      refine ra_cV (s4_1 hE0 hr56) rfl (ct_1 rfl lk_6_61 (Or.inl rfl) (sh_D hE0) (Nat.le_of_ble_eq_true rfl)) (fun s57 hs57 => ?_)
      obtain ⟨hf58, he59, he60⟩ := hs57
      have hF61 := Fr_tr (lo := 14) (hi := 177) hF52 hf58 (by omega)
      have hk62 : s57 (40) = σ (40) := (hf58 (40) (by omega)).trans hk53
      have hk63 : s57 (176) = σ (176) := (hf58 (176) (by omega)).trans hk54
      have hA4 : x4AR (tx_r0 (ra_g s47 175 7)) s57 E0 := x4AR_0 ⟨by omega, by omega⟩ he59 he60 ⟨((ra_gk (hf58 (175) (by omega))).trans (by omega)), ((ra_gk (hf58 (175) (by omega))).trans (by omega)), ((ra_gk (hf58 (175) (by omega))).trans (by omega)), ((ra_gk (hf58 (175) (by omega))).trans (by omega)), ((ra_gk (hf58 (175) (by omega))).trans (by omega)), ((ra_gk (hf58 (175) (by omega))).trans (by omega))⟩
      have hp4 : ra_g s57 175 4 = (e1 : Nat) := ((ra_gk (hf58 (175) (by omega))).trans (by omega))
      have hl4 : ra_g s57 175 1 = ra_g σ 175 1 := ((ra_gk (hf58 (175) (by omega))).trans (by omega))
      refine ra_load rfl rfl rfl rfl ?_
      refine ra_cQPs (s4_105 (x4TB_k ((ra_gk (hf58 (175) (by omega))).trans (by omega)) hk63 hB) hp4 (by omega)) rfl (ct_105 rfl lk_6_67 (Or.inl rfl) sh_175 (Nat.le_of_ble_eq_true rfl)) (fun z65 s64 hz65 hz65p hs64 => ?_)
      obtain ⟨hf66, hc67, he68⟩ := hs64
      have hF69 := Fr_tr (lo := 14) (hi := 177) hF61 hf66 (by omega)
      have hk70 : s64 (40) = σ (40) := (hf66 (40) (by omega)).trans hk62
      have hk71 : s64 (176) = σ (176) := hc67.trans hk63
      refine ra_store (L' := [_, _, _, _]) rfl rfl rfl (Nat.le_of_ble_eq_true rfl) rfl ?_
      refine ra_iconst rfl ?_
      refine ra_store (L' := [_, _, _, _]) rfl rfl rfl (Nat.le_of_ble_eq_true rfl) rfl ?_
      exact ra_weak (by repeat' constructor) (l4_99_83 hE0 hq hB _ z65 (0) s64 hz65 (by first | omega | (unfold ra_in at *; omega)) (by first | omega | (unfold ra_in at *; omega)) hF69 hk70 hk71 (by omega) (x4li_0 (Iff.mp w1 (by omega)) hr1 hA4 hz65p (fun j hj => hf66 (E0 + j) (by omega)) (by omega)) (Nat.lt_succ_self _))
    · refine ra_iconst rfl ?_
      exact ra_ireturn rfl (ra_okB (Or.inl rfl)) ⟨⟨_, (Or.inl rfl), (x4po_rd hz48p (by omega) rfl (fun x hx => x4text_2 (Iff.mp w1 (by omega)) hx)), rfl⟩, ⟨hF52, hk53, hk54, (by omega)⟩⟩
  · refine ra_load rfl rfl rfl rfl ?_
    refine ra_iconst rfl ?_
    refine ra_cQP (s4_107 (by first | omega | (unfold ra_in at *; omega))) rfl (ct_107 rfl lk_6_50 (Or.inl rfl) sh_175 (Nat.le_of_ble_eq_true rfl)) (fun z94 s93 hz94 hz94p hs93 => ?_)
    obtain ⟨hf95, hc96, he97⟩ := hs93
    have hF98 := Fr_tr (lo := 14) (hi := 177) hF41 hf95 (by omega)
    have hk99 : s93 (40) = σ (40) := (hf95 (40) (by omega)).trans hk42
    have hk100 : s93 (176) = σ (176) := hc96.trans hk43
    exact ra_ireturn rfl (ra_okB hz94) ⟨⟨_, hz94, (x4po_f (c := 1) (a := tx_a B bn 0) hz94p (x4text_1 (fun q => absurd (Iff.mpr w1 q) (by omega))) (by omega) (by omega)), rfl⟩, ⟨hF98, hk99, hk100, (by omega)⟩⟩
theorem s4_116 {n : Nat} {f : Nat → Int32} {d : Nat}  {σ : ra_V} (hci : CI σ) (hB : x4TB σ B bn) : ra_C (g_Gs n f) g_sh 0 (d + 10) 116 [.index (0)] σ (fun r9 s => r9 = .inl (some (ra_I (tx_ans (tx_text B bn)))) ∧ Fr (0) (179) σ s ∧ CI s ∧ ra_g s 175 1 = 0 ∧ ra_g s 175 2 = tx_err (tx_text B bn) ∧ ra_g s 175 3 = tx_off (tx_text B bn)) := by
  refine ra_enter (nn := 1) mt_116 rfl (Nat.le_of_ble_eq_true rfl) rfl (fun h => absurd h (by decide +kernel)) ?_
  have hB0 := hB
  obtain ⟨b1, b2, b3, b4⟩ := hB0
  refine ra_load rfl rfl rfl rfl ?_
  refine ra_getR rfl lk_7_39 (Nat.zero_le _) sh_0 rfl ?_
  refine ra_load rfl rfl rfl rfl ?_
  refine ra_getR rfl lk_7_16 (Nat.zero_le _) sh_0 rfl ?_
  refine ra_cQPs (s4_99 isD_14 rfl hB) rfl (ct_99 rfl lk_7_65 (Or.inl rfl) sh_175 (Nat.le_of_ble_eq_true rfl)) (fun z2 s1 hz2 hz2p hs1 => ?_)
  obtain ⟨hf3, hc4, hc5, he6⟩ := hs1
  have hF7 := Fr_tr (lo := 0) (hi := 179) Fr_rf hf3 (by omega)
  have hci8 : CI s1 := (by have hz := hci; unfold CI at hz ⊢; rw [ra_gk hc4]; exact hz)
  refine ra_store (L' := [_, _]) rfl rfl rfl (Nat.le_of_ble_eq_true rfl) rfl ?_
  refine ra_load rfl rfl rfl rfl ?_
  refine ra_getR rfl lk_7_39 (Nat.zero_le _) sh_0 rfl ?_
  refine ra_iconst rfl ?_
  refine ra_putI rfl lk_7_61 (Nat.zero_le _) sh_175 rfl rfl ?_
  refine ra_newU (by first | omega | (unfold ra_in at *; omega)) (fun s9 hs9 hp10 hp10o => ?_)
  have hp10_2 := hp10o 2 (by decide)
  have hp10_3 := hp10o 3 (by decide)
  have hp10_4 := hp10o 4 (by decide)
  have hp10_5 := hp10o 5 (by decide)
  have hp10_6 := hp10o 6 (by decide)
  have hp10_7 := hp10o 7 (by decide)
  have hp10_8 := hp10o 8 (by decide)
  have hp10_9 := hp10o 9 (by decide)
  have hp10_10 := hp10o 10 (by decide)
  have hp10_11 := hp10o 11 (by decide)
  have hF11 := Fr_tr (lo := 0) (hi := 179) hF7 hs9 (by omega)
  have hci12 : CI s9 := CI_fr hci8 hs9 (by omega)
  have hx2 : ra_g s9 175 2 = tx_err (tx_text B bn) := (by omega : ra_g s9 175 2 = ra_g s1 175 2).trans (x4po_2 hz2p)
  have hx3 : ra_g s9 175 3 = tx_off (tx_text B bn) := (by omega : ra_g s9 175 3 = ra_g s1 175 3).trans (x4po_3 hz2p)
  refine ra_load rfl rfl rfl rfl ?_
  refine ra_ifne rfl rfl (ra_in01 hz2) (fun h13 => ?_) (fun h13 => ?_)
  · obtain ⟨-, r1, ht1, hA1⟩ := hz2p.resolve_right (fun q => by omega)
    refine ra_load rfl rfl rfl rfl ?_
    refine ra_getR rfl lk_7_10 (Nat.zero_le _) sh_0 rfl ?_
    refine ra_load rfl rfl rfl rfl ?_
    refine ra_getR rfl lk_7_16 (Nat.zero_le _) sh_0 rfl ?_
    refine ra_cV (s4_2 isD_1 isD_14 ⟨rfl, rfl⟩) rfl (ct_2 rfl lk_7_69 (Or.inl rfl) (sh_D isD_1) (Nat.le_of_ble_eq_true rfl)) (fun s14 hs14 => ?_)
    obtain ⟨hf15, he16⟩ := hs14
    have hF17 := Fr_tr (lo := 0) (hi := 179) hF11 hf15 (by omega)
    have hci18 : CI s14 := CI_fr hci12 hf15 (by omega)
    have hk19 : s14 (175) = s9 (175) := (hf15 (175) (by omega))
    refine ra_load rfl rfl rfl rfl ?_
    refine ra_getR rfl lk_7_25 (Nat.zero_le _) sh_0 rfl ?_
    refine ra_cV (sp_64 hci18) rfl (ct_64 rfl lk_7_73 (Or.inl rfl) sh_40 (Nat.le_of_ble_eq_true rfl)) (fun s20 hs20 => ?_)
    obtain ⟨hf21, he22⟩ := hs20
    have hF23 := Fr_tr (lo := 0) (hi := 179) hF17 hf21 (by omega)
    have hci24 : CI s20 := he22
    have hk25 : s20 (175) = s9 (175) := (hf21 (175) (by omega)).trans hk19
    refine ra_load rfl rfl rfl rfl ?_
    refine ra_iconst rfl ?_
    refine ra_putB rfl lk_7_76 (Nat.zero_le _) sh_0 rfl rfl (Or.inl rfl) ?_
    refine ra_new Fr_up (fun s26 hs26 => ?_)
    have hF27 := Fr_tr (lo := 0) (hi := 179) hF23 hs26 (by omega)
    have hci28 : CI s26 := CI_fr hci24 hs26 (by omega)
    have hk29 : s26 (175) = s9 (175) := (hs26 (175) (by omega)).trans hk25
    refine ra_load rfl rfl rfl rfl ?_
    refine ra_getR rfl lk_7_46 (Nat.zero_le _) sh_0 rfl ?_
    refine ra_cV (sp_85 ) rfl (ct_85 rfl lk_7_80 (Or.inl rfl) sh_177 (Nat.le_of_ble_eq_true rfl)) (fun s30 hs30 => ?_)
    have hF31 := Fr_tr (lo := 0) (hi := 179) hF27 hs30 (by omega)
    have hci32 : CI s30 := CI_fr hci28 hs30 (by omega)
    have hk33 : s30 (175) = s9 (175) := (hs30 (175) (by omega)).trans hk29
    refine ra_load rfl rfl rfl rfl ?_
    refine ra_getR rfl lk_7_10 (Nat.zero_le _) sh_0 rfl ?_
    refine ra_cTp (s4_4 isD_1 (x4sz_cp hA1 (fun p hp => ra_gk ((hs30 (1 + 5 + p) (by omega)).trans ((hs26 (1 + 5 + p) (by omega)).trans (hf21 (1 + 5 + p) (by omega))))) he16 (fun p hp => ra_gk (hs9 (14 + 5 + p) (by omega))))) rfl (ct_4 rfl lk_7_83 (Or.inl rfl) (sh_D isD_1) (Nat.le_of_ble_eq_true rfl)) ?_
    have hr35 : ra_in ((r1 5)) := (x4SZ_in (x4sz_cp hA1 (fun p hp => ra_gk ((hs30 (1 + 5 + p) (by omega)).trans ((hs26 (1 + 5 + p) (by omega)).trans (hf21 (1 + 5 + p) (by omega))))) he16 (fun p hp => ra_gk (hs9 (14 + 5 + p) (by omega)))))
    exact ra_ireturn rfl rfl ⟨(congrArg (fun z => Sum.inl (some (ra_I z))) (x4po_y ht1)), ⟨hF31, hci32, ((ra_gk ((hs30 (175) (by omega)).trans ((hs26 (175) (by omega)).trans ((hf21 (175) (by omega)).trans (hf15 (175) (by omega)))))).trans (by omega)), ((ra_gk ((hs30 (175) (by omega)).trans ((hs26 (175) (by omega)).trans ((hf21 (175) (by omega)).trans (hf15 (175) (by omega)))))).trans hx2), ((ra_gk ((hs30 (175) (by omega)).trans ((hs26 (175) (by omega)).trans ((hf21 (175) (by omega)).trans (hf15 (175) (by omega)))))).trans hx3)⟩⟩
  · refine ra_iconst rfl ?_
    exact ra_ireturn rfl rfl ⟨(congrArg (fun z => Sum.inl (some (ra_I z))) (x4po_n hz2p (by omega))), ⟨hF11, hci12, (by omega), hx2, hx3⟩⟩
end
