/-! T4: what the class's methods that read a text do (printed by wip/gen/c4.py) -/
section
variable {B : Nat → Int} {bn ps ta : Nat} {pk uv al : Int} {r : Nat → Int}
theorem l4_99_83 {n : Nat} {f : Nat → Int32} {d : Nat} {E0 : Nat} {σ : ra_V} (hE0 : isD E0) (hq : E0 = 14) (hB : x4TB σ B bn) : ∀ (nn : Nat) (v2 : Int) (v3 : Int) (s : ra_V) (hv2 : v2 = 0 ∨ v2 = 1) (hv3_0 : 0 ≤ v3) (hv3_1 : v3 ≤ 500) (hF : Fr (14) (177) σ s) (hk0 : s (40) = σ (40)) (hk1 : s (176) = σ (176)) (hl1 : ra_g s 175 1 = ra_g σ 175 1) (hL : x4LI B bn s E0 v2 v3) (hm : ((500 - v3 : Int)).toNat < nn), ra_P (g_Gs n f) g_sh 0 (d + 8) g_m_X6_parseInto 83 [some (.index (175)), some (.index (E0)), some (ra_I v2), some (ra_I v3)] [] s (fun r s => (∃ z : Int, (z = 0 ∨ z = 1) ∧ (x4PO s E0 z (tx_text B bn)) ∧ r = .inl (some (ra_I z))) ∧ Fr (14) (177) σ s ∧ s (40) = σ (40) ∧ s (176) = σ (176) ∧ ra_g s 175 1 = ra_g σ 175 1) := by
  intro nn
  induction nn with
  | zero => intro v2 v3 s hv2 hv3_0 hv3_1 hF hk0 hk1 hl1 hL hm; exact absurd hm (Nat.not_lt_zero _)
  | succ nn ih =>
    intro v2 v3 s hv2 hv3_0 hv3_1 hF hk0 hk1 hl1 hL hm
    have hB0 := hB
    obtain ⟨b1, b2, b3, b4⟩ := hB0
    refine ra_load rfl rfl rfl rfl ?_
    refine ra_ifeq rfl rfl (ra_in01 hv2) (fun h83 => ?_) (fun h83 => ?_)
    · refine ra_load rfl rfl rfl rfl ?_
      exact ra_ireturn rfl (ra_okB hv2) ⟨⟨_, hv2, (x4po_l hL (by omega)), rfl⟩, ⟨hF, hk0, hk1, (by omega)⟩⟩
    · refine ra_load rfl rfl rfl rfl ?_
      refine ra_sipush rfl (by decide) ?_
      refine ra_icge rfl rfl (by first | omega | (unfold ra_in at *; omega)) (by first | omega | (unfold ra_in at *; omega)) (fun h84 => ?_) (fun h84 => ?_)
      · refine ra_load rfl rfl rfl rfl ?_
        exact ra_ireturn rfl (ra_okB hv2) ⟨⟨_, hv2, (x4po_l hL (by omega)), rfl⟩, ⟨hF, hk0, hk1, (by omega)⟩⟩
      · obtain ⟨-, r1, e1, ht1, hA1, hp1, he1⟩ := hL.resolve_right (fun q => by omega)
        refine ra_load rfl rfl rfl rfl ?_
        refine ra_cV (s4_111 (x4TB_k (by omega) hk1 hB) hp1 (by omega)) rfl (ct_111 rfl lk_6_41 (Or.inl rfl) sh_175 (Nat.le_of_ble_eq_true rfl)) (fun s85 hs85 => ?_)
        obtain ⟨hf86, hc87, he88, he89⟩ := hs85
        have hF90 := Fr_tr (lo := 14) (hi := 177) hF hf86 (by omega)
        have hk91 : s85 (40) = σ (40) := (hf86 (40) (by omega)).trans hk0
        have hk92 : s85 (176) = σ (176) := hc87.trans hk1
        have hA3 := x4AR_k (fun j hj => hf86 (E0 + j) (by omega)) (by omega) hA1
        have hN3 := he89
        obtain ⟨n1, n2, n3, n4, n5, n6, n7, n8, n9⟩ := hN3
        refine ra_load rfl rfl rfl rfl ?_
        refine ra_getI rfl lk_6_71 (Nat.zero_le _) sh_175 rfl ?_
        have hr93 : ra_in (ra_g s85 (175) 5) := (ra_in_g _ _ _)
        refine ra_ifne rfl rfl hr93 (fun h94 => ?_) (fun h94 => ?_)
        · refine ra_load rfl rfl rfl rfl ?_
          refine ra_load rfl rfl rfl rfl ?_
          refine ra_cQPs (s4_100 hE0 (by first | assumption | rfl | omega) (x4TB_k (by omega) hk92 hB) he89 hA3) rfl (ct_100 rfl lk_6_74 (Or.inl rfl) sh_175 (Nat.le_of_ble_eq_true rfl)) (fun z96 s95 hz96 hz96p hs95 => ?_)
          obtain ⟨hf97, hc98, hc99, he100⟩ := hs95
          have hF101 := Fr_tr (lo := 14) (hi := 177) hF90 hf97 (by omega)
          have hk102 : s95 (40) = σ (40) := hc98.trans hk91
          have hk103 : s95 (176) = σ (176) := hc99.trans hk92
          refine ra_store (L' := [_, _, _, _]) rfl rfl rfl (Nat.le_of_ble_eq_true rfl) rfl ?_
          refine ra_iinc (L' := [_, _, _, _]) rfl rfl (Nat.le_of_ble_eq_true rfl) rfl ?_
          refine ra_goto rfl rfl ?_
          exact ra_weak (by repeat' constructor) (ih z96 (v3 + 1) s95 hz96 (by first | omega | (unfold ra_in at *; omega)) (by first | omega | (unfold ra_in at *; omega)) hF101 hk102 hk103 (by omega) (x4li_s hz96p ht1 (by omega) (by omega)) (by first | omega | (unfold ra_in at *; omega)))
        · refine ra_iconst rfl ?_
          exact ra_ireturn rfl (ra_okB (Or.inr rfl)) ⟨⟨_, (Or.inr rfl), (x4po_e ht1 hA3 rfl (by omega)), rfl⟩, ⟨hF90, hk91, hk92, (by omega)⟩⟩
theorem s4_99 {n : Nat} {f : Nat → Int32} {d : Nat} {E0 : Nat} {σ : ra_V} (hE0 : isD E0) (hq : E0 = 14) (hB : x4TB σ B bn) : ra_C (g_Gs n f) g_sh 0 (d + 9) 99 [.index (175), .index (E0)] σ (fun r s => (∃ z : Int, (z = 0 ∨ z = 1) ∧ (x4PO s E0 z (tx_text B bn)) ∧ r = .inl (some (ra_I z))) ∧ Fr (14) (177) σ s ∧ s (40) = σ (40) ∧ s (176) = σ (176) ∧ ra_g s 175 1 = ra_g σ 175 1) := by
  refine ra_enter (nn := 2) mt_99 rfl (Nat.le_of_ble_eq_true rfl) rfl (fun h => absurd h (by decide +kernel)) ?_
  have hB0 := hB
  obtain ⟨b1, b2, b3, b4⟩ := hB0
  refine ra_load rfl rfl rfl rfl ?_
  refine ra_iconst rfl ?_
  refine ra_putI rfl lk_6_15 (Nat.zero_le _) sh_175 rfl rfl ?_
  refine ra_newU (by first | omega | (unfold ra_in at *; omega)) (fun s1 hs1 hp2 hp2o => ?_)
  have hp2_1 := hp2o 1 (by decide)
  have hp2_3 := hp2o 3 (by decide)
  have hp2_4 := hp2o 4 (by decide)
  have hp2_5 := hp2o 5 (by decide)
  have hp2_6 := hp2o 6 (by decide)
  have hp2_7 := hp2o 7 (by decide)
  have hp2_8 := hp2o 8 (by decide)
  have hp2_9 := hp2o 9 (by decide)
  have hp2_10 := hp2o 10 (by decide)
  have hp2_11 := hp2o 11 (by decide)
  have hF3 := Fr_tr (lo := 14) (hi := 177) Fr_rf hs1 (by omega)
  have hk4 : s1 (40) = σ (40) := (hs1 (40) (by omega))
  have hk5 : s1 (176) = σ (176) := (hs1 (176) (by omega))
  have hk6 : s1 (E0) = σ (E0) := (hs1 (E0) (by omega))
  refine ra_load rfl rfl rfl rfl ?_
  refine ra_iconst rfl ?_
  refine ra_putI rfl lk_6_19 (Nat.zero_le _) sh_175 rfl rfl ?_
  refine ra_newU (by first | omega | (unfold ra_in at *; omega)) (fun s7 hs7 hp8 hp8o => ?_)
  have hp8_1 := hp8o 1 (by decide)
  have hp8_2 := hp8o 2 (by decide)
  have hp8_4 := hp8o 4 (by decide)
  have hp8_5 := hp8o 5 (by decide)
  have hp8_6 := hp8o 6 (by decide)
  have hp8_7 := hp8o 7 (by decide)
  have hp8_8 := hp8o 8 (by decide)
  have hp8_9 := hp8o 9 (by decide)
  have hp8_10 := hp8o 10 (by decide)
  have hp8_11 := hp8o 11 (by decide)
  have hF9 := Fr_tr (lo := 14) (hi := 177) hF3 hs7 (by omega)
  have hk10 : s7 (40) = σ (40) := (hs7 (40) (by omega)).trans hk4
  have hk11 : s7 (176) = σ (176) := (hs7 (176) (by omega)).trans hk5
  have hk12 : s7 (E0) = σ (E0) := (hs7 (E0) (by omega)).trans hk6
  refine ra_load rfl rfl rfl rfl ?_
  refine ra_iconst rfl ?_
  refine ra_putI rfl lk_6_25 (Nat.zero_le _) sh_175 rfl rfl ?_
  refine ra_newU (by first | omega | (unfold ra_in at *; omega)) (fun s13 hs13 hp14 hp14o => ?_)
  have hp14_1 := hp14o 1 (by decide)
  have hp14_2 := hp14o 2 (by decide)
  have hp14_3 := hp14o 3 (by decide)
  have hp14_5 := hp14o 5 (by decide)
  have hp14_6 := hp14o 6 (by decide)
  have hp14_7 := hp14o 7 (by decide)
  have hp14_8 := hp14o 8 (by decide)
  have hp14_9 := hp14o 9 (by decide)
  have hp14_10 := hp14o 10 (by decide)
  have hp14_11 := hp14o 11 (by decide)
  have hF15 := Fr_tr (lo := 14) (hi := 177) hF9 hs13 (by omega)
  have hk16 : s13 (40) = σ (40) := (hs13 (40) (by omega)).trans hk10
  have hk17 : s13 (176) = σ (176) := (hs13 (176) (by omega)).trans hk11
  have hk18 : s13 (E0) = σ (E0) := (hs13 (E0) (by omega)).trans hk12
  refine ra_load rfl rfl rfl rfl ?_
  refine ra_iconst rfl ?_
  refine ra_putB rfl lk_6_28 (Nat.zero_le _) sh_175 rfl rfl (Or.inl rfl) ?_
  refine ra_newU (ra_in01 (Or.inl rfl)) (fun s19 hs19 hp20 hp20o => ?_)
  have hp20_1 := hp20o 1 (by decide)
  have hp20_2 := hp20o 2 (by decide)
  have hp20_3 := hp20o 3 (by decide)
  have hp20_4 := hp20o 4 (by decide)
  have hp20_5 := hp20o 5 (by decide)
  have hp20_6 := hp20o 6 (by decide)
  have hp20_7 := hp20o 7 (by decide)
  have hp20_9 := hp20o 9 (by decide)
  have hp20_10 := hp20o 10 (by decide)
  have hp20_11 := hp20o 11 (by decide)
  have hF21 := Fr_tr (lo := 14) (hi := 177) hF15 hs19 (by omega)
  have hk22 : s19 (40) = σ (40) := (hs19 (40) (by omega)).trans hk16
  have hk23 : s19 (176) = σ (176) := (hs19 (176) (by omega)).trans hk17
  have hk24 : s19 (E0) = σ (E0) := (hs19 (E0) (by omega)).trans hk18
  refine ra_load rfl rfl rfl rfl ?_
  refine ra_iconst rfl ?_
  refine ra_putB rfl lk_6_32 (Nat.zero_le _) sh_175 rfl rfl (Or.inl rfl) ?_
  refine ra_newU (ra_in01 (Or.inl rfl)) (fun s25 hs25 hp26 hp26o => ?_)
  have hp26_1 := hp26o 1 (by decide)
  have hp26_2 := hp26o 2 (by decide)
  have hp26_3 := hp26o 3 (by decide)
  have hp26_4 := hp26o 4 (by decide)
  have hp26_5 := hp26o 5 (by decide)
  have hp26_6 := hp26o 6 (by decide)
  have hp26_7 := hp26o 7 (by decide)
  have hp26_8 := hp26o 8 (by decide)
  have hp26_10 := hp26o 10 (by decide)
  have hp26_11 := hp26o 11 (by decide)
  have hF27 := Fr_tr (lo := 14) (hi := 177) hF21 hs25 (by omega)
  have hk28 : s25 (40) = σ (40) := (hs25 (40) (by omega)).trans hk22
  have hk29 : s25 (176) = σ (176) := (hs25 (176) (by omega)).trans hk23
  have hk30 : s25 (E0) = σ (E0) := (hs25 (E0) (by omega)).trans hk24
  refine ra_load rfl rfl rfl rfl ?_
  refine ra_iconst rfl ?_
  refine ra_putB rfl lk_6_35 (Nat.zero_le _) sh_175 rfl rfl (Or.inl rfl) ?_
  refine ra_newU (ra_in01 (Or.inl rfl)) (fun s31 hs31 hp32 hp32o => ?_)
  have hp32_1 := hp32o 1 (by decide)
  have hp32_2 := hp32o 2 (by decide)
  have hp32_3 := hp32o 3 (by decide)
  have hp32_4 := hp32o 4 (by decide)
  have hp32_5 := hp32o 5 (by decide)
  have hp32_6 := hp32o 6 (by decide)
  have hp32_7 := hp32o 7 (by decide)
  have hp32_8 := hp32o 8 (by decide)
  have hp32_9 := hp32o 9 (by decide)
  have hp32_11 := hp32o 11 (by decide)
  have hF33 := Fr_tr (lo := 14) (hi := 177) hF27 hs31 (by omega)
  have hk34 : s31 (40) = σ (40) := (hs31 (40) (by omega)).trans hk28
  have hk35 : s31 (176) = σ (176) := (hs31 (176) (by omega)).trans hk29
  have hk36 : s31 (E0) = σ (E0) := (hs31 (E0) (by omega)).trans hk30
  refine ra_load rfl rfl rfl rfl ?_
  refine ra_iconst rfl ?_
  refine ra_putB rfl lk_6_38 (Nat.zero_le _) sh_175 rfl rfl (Or.inl rfl) ?_
  refine ra_newU (ra_in01 (Or.inl rfl)) (fun s37 hs37 hp38 hp38o => ?_)
  have hp38_1 := hp38o 1 (by decide)
  have hp38_2 := hp38o 2 (by decide)
  have hp38_3 := hp38o 3 (by decide)
  have hp38_4 := hp38o 4 (by decide)
  have hp38_5 := hp38o 5 (by decide)
  have hp38_6 := hp38o 6 (by decide)
  have hp38_7 := hp38o 7 (by decide)
  have hp38_8 := hp38o 8 (by decide)
  have hp38_9 := hp38o 9 (by decide)
  have hp38_10 := hp38o 10 (by decide)
  have hF39 := Fr_tr (lo := 14) (hi := 177) hF33 hs37 (by omega)
  have hk40 : s37 (40) = σ (40) := (hs37 (40) (by omega)).trans hk34
  have hk41 : s37 (176) = σ (176) := (hs37 (176) (by omega)).trans hk35
  have hk42 : s37 (E0) = σ (E0) := (hs37 (E0) (by omega)).trans hk36
  refine ra_load rfl rfl rfl rfl ?_
  refine ra_cV (s4_111 (x4TB_k (by omega) hk41 hB) (show ra_g s37 175 4 = ((0 : Nat) : Int) by omega) (by omega)) rfl (ct_111 rfl lk_6_41 (Or.inl rfl) sh_175 (Nat.le_of_ble_eq_true rfl)) (fun s43 hs43 => ?_)
  obtain ⟨hf44, hc45, he46, he47⟩ := hs43
  have hF48 := Fr_tr (lo := 14) (hi := 177) hF39 hf44 (by omega)
  have hk49 : s43 (40) = σ (40) := (hf44 (40) (by omega)).trans hk40
  have hk50 : s43 (176) = σ (176) := hc45.trans hk41
  have hk51 : s43 (E0) = σ (E0) := (hf44 (E0) (by omega)).trans hk42
  have hN1 := he47
  obtain ⟨n1, n2, n3, n4, n5, n6, n7, n8, n9⟩ := hN1
  refine ra_load rfl rfl rfl rfl ?_
  refine ra_ldcS rfl lk_6_44 ?_
  refine ra_cQPp (s4_112 lk_6_44 (by decide) (x4TB_k (by omega) hk50 hB) he47) rfl (ct_112 rfl lk_6_46 (Or.inl rfl) sh_175 (Nat.le_of_ble_eq_true rfl)) (fun z53 hz53 hz53p => ?_)
  have w1 := hz53p
  rw [show "disk".toList = ['d', 'i', 's', 'k'] by decide] at w1
  refine ra_ifne rfl rfl (ra_in01 hz53) (fun h54 => ?_) (fun h54 => ?_)
  · refine ra_load rfl rfl rfl rfl ?_
    refine ra_bipush rfl (by decide) ?_
    refine ra_sipush rfl (by decide) ?_
    refine ra_cQPs (s4_106 (by first | omega | (unfold ra_in at *; omega)) (by first | omega | (unfold ra_in at *; omega)) (x4TB_k (by omega) hk50 hB) (show ra_g s43 175 4 = ((tx_e B bn (tx_a B bn 0) : Nat) : Int) by omega) (by omega)) rfl (ct_106 rfl lk_6_54 (Or.inl rfl) sh_175 (Nat.le_of_ble_eq_true rfl)) (fun z56 s55 hz56 hz56p hs55 => ?_)
    obtain ⟨hf57, hc58, he59⟩ := hs55
    have hF60 := Fr_tr (lo := 14) (hi := 177) hF48 hf57 (by omega)
    have hk61 : s55 (40) = σ (40) := (hf57 (40) (by omega)).trans hk49
    have hk62 : s55 (176) = σ (176) := hc58.trans hk50
    have hk63 : s55 (E0) = σ (E0) := (hf57 (E0) (by omega)).trans hk51
    refine ra_ifne rfl rfl (ra_in01 hz56) (fun h64 => ?_) (fun h64 => ?_)
    · obtain ⟨-, v1_, e1, hr1, rfl, hp1, he1, hl1, hu1, hk1, hk1b, hn1⟩ := hz56p.resolve_right (fun q => by omega)
      refine ra_load rfl rfl rfl rfl ?_
      refine ra_load rfl rfl rfl rfl ?_
      refine ra_getI rfl lk_6_58 (Nat.zero_le _) sh_175 rfl ?_
      have hr65 : ra_in (ra_g s55 (175) 7) := (ra_in_g _ _ _)
      refine ra_cV (s4_1 hE0 hr65) rfl (ct_1 rfl lk_6_61 (Or.inl rfl) (sh_D hE0) (Nat.le_of_ble_eq_true rfl)) (fun s66 hs66 => ?_)
      obtain ⟨hf67, he68, he69⟩ := hs66
      have hF70 := Fr_tr (lo := 14) (hi := 177) hF60 hf67 (by omega)
      have hk71 : s66 (40) = σ (40) := (hf67 (40) (by omega)).trans hk61
      have hk72 : s66 (176) = σ (176) := (hf67 (176) (by omega)).trans hk62
      have hk73 : s66 (E0) = σ (E0) := (hf67 (E0) (by omega)).trans hk63
      have hA4 : x4AR (tx_r0 (ra_g s55 175 7)) s66 E0 := x4AR_0 ⟨by omega, by omega⟩ he68 he69 ⟨((ra_gk (hf67 (175) (by omega))).trans (by omega)), ((ra_gk (hf67 (175) (by omega))).trans (by omega)), ((ra_gk (hf67 (175) (by omega))).trans (by omega)), ((ra_gk (hf67 (175) (by omega))).trans (by omega)), ((ra_gk (hf67 (175) (by omega))).trans (by omega)), ((ra_gk (hf67 (175) (by omega))).trans (by omega))⟩
      have hp4 : ra_g s66 175 4 = (e1 : Nat) := ((ra_gk (hf67 (175) (by omega))).trans (by omega))
      refine ra_load rfl rfl rfl rfl ?_
      refine ra_cQPs (s4_105 (x4TB_k ((ra_gk (hf67 (175) (by omega))).trans (by omega)) hk72 hB) hp4 (by omega)) rfl (ct_105 rfl lk_6_67 (Or.inl rfl) sh_175 (Nat.le_of_ble_eq_true rfl)) (fun z75 s74 hz75 hz75p hs74 => ?_)
      obtain ⟨hf76, hc77, he78⟩ := hs74
      have hF79 := Fr_tr (lo := 14) (hi := 177) hF70 hf76 (by omega)
      have hk80 : s74 (40) = σ (40) := (hf76 (40) (by omega)).trans hk71
      have hk81 : s74 (176) = σ (176) := hc77.trans hk72
      have hk82 : s74 (E0) = σ (E0) := (hf76 (E0) (by omega)).trans hk73
      refine ra_store (L' := [_, _, _, _]) rfl rfl rfl (Nat.le_of_ble_eq_true rfl) rfl ?_
      refine ra_iconst rfl ?_
      refine ra_store (L' := [_, _, _, _]) rfl rfl rfl (Nat.le_of_ble_eq_true rfl) rfl ?_
      exact ra_weak (by repeat' constructor) (l4_99_83 hE0 hq hB _ z75 (0) s74 hz75 (by first | omega | (unfold ra_in at *; omega)) (by first | omega | (unfold ra_in at *; omega)) hF79 hk80 hk81 (by omega) (x4li_0 (w1.mp (by omega)) hr1 hA4 hz75p (fun j hj => hf76 (E0 + j) (by omega)) (by omega)) (Nat.lt_succ_self _))
    · refine ra_iconst rfl ?_
      exact ra_ireturn rfl (ra_okB (Or.inl rfl)) ⟨⟨_, (Or.inl rfl), (x4po_rd hz56p (by omega) rfl (fun x hx => x4text_2 (w1.mp (by omega)) hx)), rfl⟩, ⟨hF60, hk61, hk62, (by omega)⟩⟩
  · refine ra_load rfl rfl rfl rfl ?_
    refine ra_iconst rfl ?_
    refine ra_cQP (s4_107 (by first | omega | (unfold ra_in at *; omega))) rfl (ct_107 rfl lk_6_50 (Or.inl rfl) sh_175 (Nat.le_of_ble_eq_true rfl)) (fun z105 s104 hz105 hz105p hs104 => ?_)
    obtain ⟨hf106, hc107, he108⟩ := hs104
    have hF109 := Fr_tr (lo := 14) (hi := 177) hF48 hf106 (by omega)
    have hk110 : s104 (40) = σ (40) := (hf106 (40) (by omega)).trans hk49
    have hk111 : s104 (176) = σ (176) := hc107.trans hk50
    have hk112 : s104 (E0) = σ (E0) := (hf106 (E0) (by omega)).trans hk51
    exact ra_ireturn rfl (ra_okB hz105) ⟨⟨_, hz105, (x4po_f (c := 1) (a := tx_a B bn 0) hz105p (x4text_1 (fun q => absurd (w1.mpr q) (by omega))) (by omega) (by omega)), rfl⟩, ⟨hF109, hk110, hk111, (by omega)⟩⟩
theorem s4_116 {n : Nat} {f : Nat → Int32} {d : Nat}  {σ : ra_V} (hci : CI σ) (hB : x4TB σ B bn) : ra_C (g_Gs n f) g_sh 0 (d + 10) 116 [.index (0)] σ (fun r s => r = .inl (some (ra_I (tx_ans (tx_text B bn)))) ∧ Fr (0) (179) σ s ∧ CI s ∧ ra_g s 175 1 = 0 ∧ ra_g s 175 2 = tx_err (tx_text B bn) ∧ ra_g s 175 3 = tx_off (tx_text B bn)) := by
  refine ra_enter (nn := 1) mt_116 rfl (Nat.le_of_ble_eq_true rfl) rfl (fun h => absurd h (by decide +kernel)) ?_
  have hB0 := hB
  obtain ⟨b1, b2, b3, b4⟩ := hB0
  refine ra_load rfl rfl rfl rfl ?_
  refine ra_getR rfl lk_7_39 (Nat.zero_le _) sh_0 rfl ?_
  refine ra_load rfl rfl rfl rfl ?_
  refine ra_getR rfl lk_7_16 (Nat.zero_le _) sh_0 rfl ?_
  refine ra_cQPs (s4_99 isD_14 rfl hB) rfl (ct_99 rfl lk_7_65 (Or.inl rfl) sh_175 (Nat.le_of_ble_eq_true rfl)) (fun z2 s1 hz2 hz2p hs1 => ?_)
  obtain ⟨hf3, hc4, hc5, he6⟩ := hs1
  have hF7 := Fr_tr (lo := 0) (hi := 179) Fr_rf hf3 (by omega)
  have hci8 : CI s1 := (by have hz := hci; unfold CI at hz ⊢; rw [ra_gk hc4]; exact hz)
  refine ra_store (L' := [_, _]) rfl rfl rfl (Nat.le_of_ble_eq_true rfl) rfl ?_
  refine ra_load rfl rfl rfl rfl ?_
  refine ra_getR rfl lk_7_39 (Nat.zero_le _) sh_0 rfl ?_
  refine ra_iconst rfl ?_
  refine ra_putI rfl lk_7_61 (Nat.zero_le _) sh_175 rfl rfl ?_
  refine ra_newU (by first | omega | (unfold ra_in at *; omega)) (fun s9 hs9 hp10 hp10o => ?_)
  have hp10_2 := hp10o 2 (by decide)
  have hp10_3 := hp10o 3 (by decide)
  have hp10_4 := hp10o 4 (by decide)
  have hp10_5 := hp10o 5 (by decide)
  have hp10_6 := hp10o 6 (by decide)
  have hp10_7 := hp10o 7 (by decide)
  have hp10_8 := hp10o 8 (by decide)
  have hp10_9 := hp10o 9 (by decide)
  have hp10_10 := hp10o 10 (by decide)
  have hp10_11 := hp10o 11 (by decide)
  have hF11 := Fr_tr (lo := 0) (hi := 179) hF7 hs9 (by omega)
  have hci12 : CI s9 := CI_fr hci8 hs9 (by omega)
  have hx2 : ra_g s9 175 2 = tx_err (tx_text B bn) := (by omega : ra_g s9 175 2 = ra_g s1 175 2).trans (x4po_2 hz2p)
  have hx3 : ra_g s9 175 3 = tx_off (tx_text B bn) := (by omega : ra_g s9 175 3 = ra_g s1 175 3).trans (x4po_3 hz2p)
  refine ra_load rfl rfl rfl rfl ?_
  refine ra_ifne rfl rfl (ra_in01 hz2) (fun h13 => ?_) (fun h13 => ?_)
  · obtain ⟨-, r1, ht1, hA1⟩ := hz2p.resolve_right (fun q => by omega)
    refine ra_load rfl rfl rfl rfl ?_
    refine ra_getR rfl lk_7_10 (Nat.zero_le _) sh_0 rfl ?_
    refine ra_load rfl rfl rfl rfl ?_
    refine ra_getR rfl lk_7_16 (Nat.zero_le _) sh_0 rfl ?_
    refine ra_cV (s4_2 isD_1 isD_14 ⟨rfl, rfl⟩) rfl (ct_2 rfl lk_7_69 (Or.inl rfl) (sh_D isD_1) (Nat.le_of_ble_eq_true rfl)) (fun s14 hs14 => ?_)
    obtain ⟨hf15, he16⟩ := hs14
    have hF17 := Fr_tr (lo := 0) (hi := 179) hF11 hf15 (by omega)
    have hci18 : CI s14 := CI_fr hci12 hf15 (by omega)
    have hk19 : s14 (175) = s9 (175) := (hf15 (175) (by omega))
    refine ra_load rfl rfl rfl rfl ?_
    refine ra_getR rfl lk_7_25 (Nat.zero_le _) sh_0 rfl ?_
    refine ra_cV (sp_64 hci18) rfl (ct_64 rfl lk_7_73 (Or.inl rfl) sh_40 (Nat.le_of_ble_eq_true rfl)) (fun s20 hs20 => ?_)
    obtain ⟨hf21, he22⟩ := hs20
    have hF23 := Fr_tr (lo := 0) (hi := 179) hF17 hf21 (by omega)
    have hci24 : CI s20 := he22
    have hk25 : s20 (175) = s9 (175) := (hf21 (175) (by omega)).trans hk19
    refine ra_load rfl rfl rfl rfl ?_
    refine ra_iconst rfl ?_
    refine ra_putB rfl lk_7_76 (Nat.zero_le _) sh_0 rfl rfl (Or.inl rfl) ?_
    refine ra_new Fr_up (fun s26 hs26 => ?_)
    have hF27 := Fr_tr (lo := 0) (hi := 179) hF23 hs26 (by omega)
    have hci28 : CI s26 := CI_fr hci24 hs26 (by omega)
    have hk29 : s26 (175) = s9 (175) := (hs26 (175) (by omega)).trans hk25
    refine ra_load rfl rfl rfl rfl ?_
    refine ra_getR rfl lk_7_46 (Nat.zero_le _) sh_0 rfl ?_
    refine ra_cV (sp_85 ) rfl (ct_85 rfl lk_7_80 (Or.inl rfl) sh_177 (Nat.le_of_ble_eq_true rfl)) (fun s30 hs30 => ?_)
    have hF31 := Fr_tr (lo := 0) (hi := 179) hF27 hs30 (by omega)
    have hci32 : CI s30 := CI_fr hci28 hs30 (by omega)
    have hk33 : s30 (175) = s9 (175) := (hs30 (175) (by omega)).trans hk29
    refine ra_load rfl rfl rfl rfl ?_
    refine ra_getR rfl lk_7_10 (Nat.zero_le _) sh_0 rfl ?_
    refine ra_cTp (s4_4 isD_1 (x4sz_cp hA1 (fun p hp => ra_gk ((hs30 (1 + 5 + p) (by omega)).trans ((hs26 (1 + 5 + p) (by omega)).trans (hf21 (1 + 5 + p) (by omega))))) he16 (fun p hp => ra_gk (hs9 (14 + 5 + p) (by omega))))) rfl (ct_4 rfl lk_7_83 (Or.inl rfl) (sh_D isD_1) (Nat.le_of_ble_eq_true rfl)) ?_
    have hr35 : ra_in ((r1 5)) := (x4SZ_in (x4sz_cp hA1 (fun p hp => ra_gk ((hs30 (1 + 5 + p) (by omega)).trans ((hs26 (1 + 5 + p) (by omega)).trans (hf21 (1 + 5 + p) (by omega))))) he16 (fun p hp => ra_gk (hs9 (14 + 5 + p) (by omega)))))
    exact ra_ireturn rfl rfl ⟨(congrArg (fun z => Sum.inl (some (ra_I z))) (x4po_y ht1)), ⟨hF31, hci32, ((ra_gk ((hs30 (175) (by omega)).trans ((hs26 (175) (by omega)).trans ((hf21 (175) (by omega)).trans (hf15 (175) (by omega)))))).trans (by omega)), ((ra_gk ((hs30 (175) (by omega)).trans ((hs26 (175) (by omega)).trans ((hf21 (175) (by omega)).trans (hf15 (175) (by omega)))))).trans hx2), ((ra_gk ((hs30 (175) (by omega)).trans ((hs26 (175) (by omega)).trans ((hf21 (175) (by omega)).trans (hf15 (175) (by omega)))))).trans hx3)⟩⟩
  · refine ra_iconst rfl ?_
    exact ra_ireturn rfl rfl ⟨(congrArg (fun z => Sum.inl (some (ra_I z))) (x4po_n hz2p (by omega))), ⟨hF11, hci12, (by omega), hx2, hx3⟩⟩
end
