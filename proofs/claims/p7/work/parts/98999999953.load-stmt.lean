/-! T5: the class's loadDisk (printed by wip/gen/c10.py) -/
section
variable {B : Nat → Int} {bn ps ta : Nat} {pk uv al : Int} {r : Nat → Int} {nh : Int} {R : Nat → ra_V}
theorem s9_102 {n : Nat} {f : Nat → Int32} {d : Nat} {E0 : Nat} {σ : ra_V} (hE0 : isD E0) (hq : E0 = 14) (hB : x4TB σ B bn) (hN : x4NXC B bn σ ta) (hA : x5A6 r σ E0) : ra_C (g_Gs n f) g_sh 0 (d + 4) 102 [.index (175), .index (E0)] σ (fun r9 s => (∃ z : Int, (z = 0 ∨ z = 1) ∧ (x5O6 bn s E0 z (tx_set B bn r ta 4 104 false 1 16)) ∧ r9 = .inl (some (ra_I z))) ∧ Fr (14) (177) σ s ∧ s (40) = σ (40) ∧ s (176) = σ (176) ∧ ra_g s 175 1 = ra_g σ 175 1 ∧ (∀ c : Nat, 27 ≤ c → c < 175 → s c = σ c)) := by
  refine ra_enter (nn := 0) mt_102 rfl (Nat.le_of_ble_eq_true rfl) rfl (fun h => absurd h (by decide +kernel)) ?_
  have hA0 := hA
  obtain ⟨⟨a1, a2, a3, a4, a5, a6, a7⟩, ax0⟩ := hA0
  have hN0 := hN
  obtain ⟨n1, n2, n3, n4, n5, n6, n7, n8, n9⟩ := hN0
  have hB0 := hB
  obtain ⟨b1, b2, b3, b4⟩ := hB0
  refine ra_load rfl rfl rfl rfl ?_
  refine ra_getB rfl lk_6_38 (Nat.zero_le _) sh_175 rfl ?_
  refine ra_ifeqB rfl rfl (fun h1 => ?_) (fun h1 => ?_)
  · refine ra_load rfl rfl rfl rfl ?_
    refine ra_iconst rfl ?_
    refine ra_putB rfl lk_6_38 (Nat.zero_le _) sh_175 rfl rfl (Or.inr rfl) ?_
    refine ra_newU (ra_in01 (Or.inr rfl)) (fun s2 hs2 hp3 hp3o => ?_)
    have hp3_1 := hp3o 1 (by decide)
    have hp3_2 := hp3o 2 (by decide)
    have hp3_3 := hp3o 3 (by decide)
    have hp3_4 := hp3o 4 (by decide)
    have hp3_5 := hp3o 5 (by decide)
    have hp3_6 := hp3o 6 (by decide)
    have hp3_7 := hp3o 7 (by decide)
    have hp3_8 := hp3o 8 (by decide)
    have hp3_9 := hp3o 9 (by decide)
    have hp3_10 := hp3o 10 (by decide)
    have hF4 := Fr_tr (lo := 14) (hi := 177) Fr_rf hs2 (by omega)
    have hk5 : s2 (40) = σ (40) := (hs2 (40) (by omega))
    have hk6 : s2 (176) = σ (176) := (hs2 (176) (by omega))
    have hk7 : s2 (E0) = σ (E0) := (hs2 (E0) (by omega))
    refine ra_load rfl rfl rfl rfl ?_
    refine ra_iconst rfl ?_
    refine ra_bipush rfl (by decide) ?_
    refine ra_cQPs (s4_106 (by first | omega | (unfold ra_in at *; omega)) (by first | omega | (unfold ra_in at *; omega)) (x4TB_k (by omega) hk6 hB) (show ra_g s2 175 4 = ((tx_e B bn ta : Nat) : Int) from (by omega)) (by omega)) rfl (ct_106 rfl lk_6_54 (Or.inl rfl) sh_175 (Nat.le_of_ble_eq_true rfl)) (fun z9 s8 hz9 hz9p hs8 => ?_)
    obtain ⟨hf10, hc11, he12⟩ := hs8
    have hF13 := Fr_tr (lo := 14) (hi := 177) hF4 hf10 (by omega)
    have hk14 : s8 (40) = σ (40) := (hf10 (40) (by omega)).trans hk5
    have hk15 : s8 (176) = σ (176) := hc11.trans hk6
    have hk16 : s8 (E0) = σ (E0) := (hf10 (E0) (by omega)).trans hk7
    refine ra_ifne rfl rfl (ra_in01 hz9) (fun h17 => ?_) (fun h17 => ?_)
    · obtain ⟨-, v1_, e1, hr1, rfl, hp1, he1, hl1, hu1, hk1, hk1b, hn1⟩ := hz9p.resolve_right (fun q => by omega)
      refine ra_load rfl rfl rfl rfl ?_
      refine ra_load rfl rfl rfl rfl ?_
      refine ra_getI rfl lk_6_58 (Nat.zero_le _) sh_175 rfl ?_
      have hr18 : ra_in (ra_g s8 (175) 7) := (ra_in_g _ _ _)
      refine ra_putI rfl lk_6_112 (Nat.zero_le _) (sh_D hE0) rfl rfl ?_
      refine ra_newU hr18 (fun s19 hs19 hp20 hp20o => ?_)
      have hp20_4 := hp20o 4 (by decide)
      rw [ra_gk hk16] at hp20_4
      have hp20_5 := hp20o 5 (by decide)
      rw [ra_gk hk16] at hp20_5
      have hp20_6 := hp20o 6 (by decide)
      rw [ra_gk hk16] at hp20_6
      have hp20_7 := hp20o 7 (by decide)
      rw [ra_gk hk16] at hp20_7
      have hF21 := Fr_tr (lo := 14) (hi := 177) hF13 hs19 (by omega)
      have hk22 : s19 (40) = σ (40) := (hs19 (40) (by omega)).trans hk14
      have hk23 : s19 (176) = σ (176) := (hs19 (176) (by omega)).trans hk15
      refine ra_iconst rfl ?_
      exact ra_ireturn rfl (ra_okB (Or.inr rfl)) ⟨⟨_, (Or.inr rfl), (x5o6_y rfl (x4set_y (fun q => absurd q.1 (by decide)) (by omega) hr1) (x5A6_set (w := 4) (by omega) hA ⟨fun q => by omega, fun q => by omega⟩ (fun j j1 j2 j3 => ((hp20o j (by omega)).trans ((ra_gk (hf10 (E0) (by omega))).trans (ra_gk (hs2 (E0) (by omega)))))) (show ra_g s19 E0 8 = _ by omega) (show ra_g s19 175 11 = 1 from ((ra_gk (hs19 (175) (by omega))).trans (by omega))) (fun j j1 j2 j3 => ((ra_gk (hs19 (175) (by omega))).trans (by rcases (show j = 8 ∨ j = 9 ∨ j = 10 ∨ j = 11 by omega) with rfl | rfl | rfl | rfl <;> omega))) ⟨((ra_gk (hs19 (175) (by omega))).trans (by omega)), ((ra_gk (hs19 (175) (by omega))).trans (by omega))⟩ (fun p hp => ((hs19 (E0 + 5 + p) (by omega)).trans ((hf10 (E0 + 5 + p) (by omega)).trans (hs2 (E0 + 5 + p) (by omega))))) ((hs19 (E0 + 3) (by omega)).trans ((hf10 (E0 + 3) (by omega)).trans (hs2 (E0 + 3) (by omega))))) ((ra_gk (hs19 (175) (by omega))).trans (by omega)) (by omega)), rfl⟩, ⟨hF21, hk22, hk23, ((ra_gk (hs19 (175) (by omega))).trans (by omega)), (fun c c1 c2 => ((hs19 c (by omega)).trans ((hf10 c (by omega)).trans (hs2 c (by omega)))))⟩⟩
    · refine ra_iconst rfl ?_
      exact ra_ireturn rfl (ra_okB (Or.inl rfl)) ⟨⟨_, (Or.inl rfl), (x5o6_rd hz9p (by omega) rfl (fun x hx => x4set_n (fun q => absurd q.1 (by decide)) (by omega) hx)), rfl⟩, ⟨hF13, hk14, hk15, (by omega), (fun c c1 c2 => ((hf10 c (by omega)).trans (hs2 c (by omega))))⟩⟩
  · refine ra_load rfl rfl rfl rfl ?_
    refine ra_iconst rfl ?_
    refine ra_cQP (s4_107 (by first | omega | (unfold ra_in at *; omega))) rfl (ct_107 rfl lk_6_50 (Or.inl rfl) sh_175 (Nat.le_of_ble_eq_true rfl)) (fun z25 s24 hz25 hz25p hs24 => ?_)
    obtain ⟨hf26, hc27, he28⟩ := hs24
    have hF29 := Fr_tr (lo := 14) (hi := 177) Fr_rf hf26 (by omega)
    have hk30 : s24 (40) = σ (40) := (hf26 (40) (by omega))
    have hk31 : s24 (176) = σ (176) := hc27
    have hk32 : s24 (E0) = σ (E0) := (hf26 (E0) (by omega))
    exact ra_ireturn rfl (ra_okB hz25) ⟨⟨_, hz25, (x5o6_f (c := 3) (a := ta) hz25p (x4set_t (fun q => absurd q.1 (by decide)) (by omega)) (by omega) (by omega)), rfl⟩, ⟨hF29, hk30, hk31, (by omega), (fun c c1 c2 => (hf26 c (by omega)))⟩⟩
theorem s9_104 {n : Nat} {f : Nat → Int32} {d : Nat} {E0 : Nat} {σ : ra_V} (hE0 : isD E0) (hq : E0 = 14) (hB : x4TB σ B bn) (hN : x4NXC B bn σ ta) (hA : x5A6 r σ E0) : ra_C (g_Gs n f) g_sh 0 (d + 4) 104 [.index (175), .index (E0)] σ (fun r9 s => (∃ z : Int, (z = 0 ∨ z = 1) ∧ (x5O6 bn s E0 z (tx_lock B bn r ta)) ∧ r9 = .inl (some (ra_I z))) ∧ Fr (14) (177) σ s ∧ s (40) = σ (40) ∧ s (176) = σ (176) ∧ ra_g s 175 1 = ra_g σ 175 1 ∧ (∀ c : Nat, 27 ≤ c → c < 175 → s c = σ c)) := by
  refine ra_enter (nn := 1) mt_104 rfl (Nat.le_of_ble_eq_true rfl) rfl (fun h => absurd h (by decide +kernel)) ?_
  have hA0 := hA
  obtain ⟨⟨a1, a2, a3, a4, a5, a6, a7⟩, ax0⟩ := hA0
  have hN0 := hN
  obtain ⟨n1, n2, n3, n4, n5, n6, n7, n8, n9⟩ := hN0
  have hB0 := hB
  obtain ⟨b1, b2, b3, b4⟩ := hB0
  refine ra_load rfl rfl rfl rfl ?_
  refine ra_iconst rfl ?_
  refine ra_load rfl rfl rfl rfl ?_
  refine ra_cTp (s4_4 hE0 a6) rfl (ct_4 rfl lk_6_102 (Or.inl rfl) (sh_D hE0) (Nat.le_of_ble_eq_true rfl)) ?_
  have hr2 : ra_in ((r 5)) := (x4SZ_in a6)
  refine ra_iconst rfl ?_
  refine ra_isub rfl ?_
  refine ra_cQPs (s4_106 (by first | omega | (unfold ra_in at *; omega)) (by first | omega | (unfold ra_in at *; omega)) hB (show ra_g σ 175 4 = ((tx_e B bn ta : Nat) : Int) from (by omega)) (by omega)) rfl (ct_106 rfl lk_6_54 (Or.inl rfl) sh_175 (Nat.le_of_ble_eq_true rfl)) (fun z4 s3 hz4 hz4p hs3 => ?_)
  obtain ⟨hf5, hc6, he7⟩ := hs3
  have hF8 := Fr_tr (lo := 14) (hi := 177) Fr_rf hf5 (by omega)
  have hk9 : s3 (40) = σ (40) := (hf5 (40) (by omega))
  have hk10 : s3 (176) = σ (176) := hc6
  have hk11 : s3 (E0) = σ (E0) := (hf5 (E0) (by omega))
  refine ra_ifne rfl rfl (ra_in01 hz4) (fun h12 => ?_) (fun h12 => ?_)
  · obtain ⟨-, v1_, e1, hr1, rfl, hp1, he1, hl1, hu1, hk1, hk1b, hn1⟩ := hz4p.resolve_right (fun q => by omega)
    refine ra_load rfl rfl rfl rfl ?_
    refine ra_load rfl rfl rfl rfl ?_
    refine ra_getI rfl lk_6_58 (Nat.zero_le _) sh_175 rfl ?_
    have hr13 : ra_in (ra_g s3 (175) 7) := (ra_in_g _ _ _)
    refine ra_cTp (s4_3 hE0 hr13 (x4SZ_k (fun p hp => ra_gk (hf5 (E0 + 5 + p) (by omega))) a6) (by omega)) rfl (ct_3 rfl lk_6_128 (Or.inl rfl) (sh_D hE0) (Nat.le_of_ble_eq_true rfl)) ?_
    have hi15 : (ra_g s3 (175) 7).toNat < 8 := by omega
    refine ra_store (L' := [_, _, _]) rfl rfl rfl (Nat.le_of_ble_eq_true rfl) rfl ?_
    refine ra_load rfl rfl rfl rfl ?_
    refine ra_nnullT rfl rfl ?_
    have b7 := a7 (ra_g s3 (175) 7).toNat (by omega) (by omega)
    have c7 : ∀ j, ra_g s3 (E0 + 5 + (ra_g s3 (175) 7).toNat) j = ra_g σ (E0 + 5 + (ra_g s3 (175) 7).toNat) j := fun j => ra_gk (hf5 (E0 + 5 + (ra_g s3 (175) 7).toNat) (by omega))
    have c71 := c7 1
    have c72 := c7 2
    have c75 := c7 5
    refine ra_load rfl rfl rfl rfl ?_
    refine ra_getB rfl lk_6_132 (Nat.zero_le _) (sh_P hE0 hi15) rfl ?_
    refine ra_ifeqB rfl rfl (fun h16 => ?_) (fun h16 => ?_)
    · refine ra_load rfl rfl rfl rfl ?_
      refine ra_iconst rfl ?_
      refine ra_putB rfl lk_6_132 (Nat.zero_le _) (sh_P hE0 hi15) rfl rfl (Or.inr rfl) ?_
      refine ra_newU (by first | omega | (unfold ra_in at *; omega)) (fun s17 hs17 hpl hplo => ?_)
      have hF18 := Fr_tr (lo := 14) (hi := 177) hF8 hs17 (by omega)
      have hk19 : s17 (40) = σ (40) := (hs17 (40) (by omega)).trans hk9
      have hk20 : s17 (176) = σ (176) := (hs17 (176) (by omega)).trans hk10
      have hk21 : s17 (E0) = σ (E0) := (hs17 (E0) (by omega)).trans hk11
      refine ra_iconst rfl ?_
      exact ra_ireturn rfl (ra_okB (Or.inr rfl)) ⟨⟨_, (Or.inr rfl), (x5o6_y rfl (x4lock_y hr1 (by omega)) (x5A6_lock (j := (ra_g s3 (175) 7).toNat) (by omega) (by omega) hA ((hs17 (E0) (by omega)).trans (hf5 (E0) (by omega))) (fun p p0 p1 => ((hs17 (E0 + 5 + p) (by omega)).trans (hf5 (E0 + 5 + p) (by omega)))) hpl (fun j hj => (hplo j hj).trans (c7 j)) ((hs17 (E0 + 3) (by omega)).trans (hf5 (E0 + 3) (by omega))) ⟨((ra_gk (hs17 (175) (by omega))).trans (by omega)), ((ra_gk (hs17 (175) (by omega))).trans (by omega)), ((ra_gk (hs17 (175) (by omega))).trans (by omega)), ((ra_gk (hs17 (175) (by omega))).trans (by omega)), ((ra_gk (hs17 (175) (by omega))).trans (by omega)), ((ra_gk (hs17 (175) (by omega))).trans (by omega))⟩) ((ra_gk (hs17 (175) (by omega))).trans (by omega)) (by omega)), rfl⟩, ⟨hF18, hk19, hk20, ((ra_gk (hs17 (175) (by omega))).trans (by omega)), (fun c c1 c2 => ((hs17 c (by omega)).trans (hf5 c (by omega))))⟩⟩
    · refine ra_load rfl rfl rfl rfl ?_
      refine ra_iconst rfl ?_
      refine ra_cQP (s4_107 (by first | omega | (unfold ra_in at *; omega))) rfl (ct_107 rfl lk_6_50 (Or.inl rfl) sh_175 (Nat.le_of_ble_eq_true rfl)) (fun z23 s22 hz23 hz23p hs22 => ?_)
      obtain ⟨hf24, hc25, he26⟩ := hs22
      have hF27 := Fr_tr (lo := 14) (hi := 177) hF8 hf24 (by omega)
      have hk28 : s22 (40) = σ (40) := (hf24 (40) (by omega)).trans hk9
      have hk29 : s22 (176) = σ (176) := hc25.trans hk10
      have hk30 : s22 (E0) = σ (E0) := (hf24 (E0) (by omega)).trans hk11
      exact ra_ireturn rfl (ra_okB hz23) ⟨⟨_, hz23, (x5o6_f (c := 3) (a := tx_a B bn (tx_e B bn ta)) hz23p (x4lock_t hr1 (by omega)) (by omega) (by omega)), rfl⟩, ⟨hF27, hk28, hk29, (by omega), (fun c c1 c2 => ((hf24 c (by omega)).trans (hf5 c (by omega))))⟩⟩
  · refine ra_iconst rfl ?_
    exact ra_ireturn rfl (ra_okB (Or.inl rfl)) ⟨⟨_, (Or.inl rfl), (x5o6_rd hz4p (by omega) rfl (fun x hx => x4lock_n hx)), rfl⟩, ⟨hF8, hk9, hk10, (by omega), (fun c c1 c2 => (hf5 c (by omega)))⟩⟩
theorem s9_103 {n : Nat} {f : Nat → Int32} {d : Nat} {E0 : Nat} {σ : ra_V} (hE0 : isD E0) (hq : E0 = 14) (hB : x4TB σ B bn) (hN : x4NXC B bn σ ta) (hA : x5A6 r σ E0) : ra_C (g_Gs n f) g_sh 0 (d + 4) 103 [.index (175), .index (E0)] σ (fun r9 s => (∃ z : Int, (z = 0 ∨ z = 1) ∧ (x5O6 bn s E0 z (tx_part B bn r ta)) ∧ r9 = .inl (some (ra_I z))) ∧ Fr (14) (177) σ s ∧ s (40) = σ (40) ∧ s (176) = σ (176) ∧ ra_g s 175 1 = ra_g σ 175 1 ∧ (∀ c : Nat, 27 ≤ c → c < 175 → s c = σ c)) := by
  refine ra_enter (nn := 3) mt_103 rfl (Nat.le_of_ble_eq_true rfl) rfl (fun h => absurd h (by decide +kernel)) ?_
  have hA0 := hA
  obtain ⟨⟨a1, a2, a3, a4, a5, a6, a7⟩, ax0⟩ := hA0
  have hN0 := hN
  obtain ⟨n1, n2, n3, n4, n5, n6, n7, n8, n9⟩ := hN0
  have hB0 := hB
  obtain ⟨b1, b2, b3, b4⟩ := hB0
  refine ra_load rfl rfl rfl rfl ?_
  refine ra_cTp (s4_4 hE0 a6) rfl (ct_4 rfl lk_6_102 (Or.inl rfl) (sh_D hE0) (Nat.le_of_ble_eq_true rfl)) ?_
  have hr2 : ra_in ((r 5)) := (x4SZ_in a6)
  refine ra_bipush rfl (by decide) ?_
  refine ra_iclt rfl rfl hr2 (by first | omega | (unfold ra_in at *; omega)) (fun h3 => ?_) (fun h3 => ?_)
  · refine ra_load rfl rfl rfl rfl ?_
    refine ra_load rfl rfl rfl rfl ?_
    refine ra_getI rfl lk_6_106 (Nat.zero_le _) (sh_D hE0) rfl ?_
    have hr4 : ra_in (ra_g σ (E0) 5) := (ra_in_g _ _ _)
    refine ra_load rfl rfl rfl rfl ?_
    refine ra_cTp (s4_9 hE0 (show ra_g σ (E0) 4 - ra_g σ (E0) 6 = r 0 - r 2 ∧ ra_in (r 0 - r 2) from ⟨by omega, by unfold ra_in; omega⟩)) rfl (ct_9 rfl lk_6_114 (Or.inl rfl) (sh_D hE0) (Nat.le_of_ble_eq_true rfl)) ?_
    have hr6 : ra_in ((r 0 - r 2)) := (show ra_g σ (E0) 4 - ra_g σ (E0) 6 = r 0 - r 2 ∧ ra_in (r 0 - r 2) from ⟨by omega, by unfold ra_in; omega⟩).2
    refine ra_iconst rfl ?_
    refine ra_isub rfl ?_
    refine ra_cQPs (s4_106 hr4 (by first | omega | (unfold ra_in at *; omega)) hB (show ra_g σ 175 4 = ((tx_e B bn ta : Nat) : Int) from (by omega)) (by omega)) rfl (ct_106 rfl lk_6_54 (Or.inl rfl) sh_175 (Nat.le_of_ble_eq_true rfl)) (fun z8 s7 hz8 hz8p hs7 => ?_)
    obtain ⟨hf9, hc10, he11⟩ := hs7
    have hF12 := Fr_tr (lo := 14) (hi := 177) Fr_rf hf9 (by omega)
    have hk13 : s7 (40) = σ (40) := (hf9 (40) (by omega))
    have hk14 : s7 (176) = σ (176) := hc10
    have hk15 : s7 (E0) = σ (E0) := (hf9 (E0) (by omega))
    rw [show ra_g σ (E0) 5 = r 1 from a1.2.1] at hz8p
    refine ra_ifne rfl rfl (ra_in01 hz8) (fun h16 => ?_) (fun h16 => ?_)
    · obtain ⟨-, v1_, e1, hr1, rfl, hp1, he1, hl1, hu1, hk1, hk1b, hn1⟩ := hz8p.resolve_right (fun q => by omega)
      refine ra_load rfl rfl rfl rfl ?_
      refine ra_getI rfl lk_6_58 (Nat.zero_le _) sh_175 rfl ?_
      have hr17 : ra_in (ra_g s7 (175) 7) := (ra_in_g _ _ _)
      refine ra_store (L' := [_, _, _, _, _]) rfl rfl rfl (Nat.le_of_ble_eq_true rfl) rfl ?_
      refine ra_load rfl rfl rfl rfl ?_
      refine ra_load rfl rfl rfl rfl ?_
      refine ra_cQPp (s4_11 hE0 hr17 ⟨(ra_gk (hf9 (E0) (by omega))).trans a1.2.2.2.1, by omega, by omega⟩) rfl (ct_11 rfl lk_6_117 (Or.inl rfl) (sh_D hE0) (Nat.le_of_ble_eq_true rfl)) (fun z19 hz19 hz19p => ?_)
      refine ra_ifne rfl rfl (ra_in01 hz19) (fun h20 => ?_) (fun h20 => ?_)
      · refine ra_load rfl rfl rfl rfl ?_
        refine ra_iconst rfl ?_
        refine ra_load rfl rfl rfl rfl ?_
        refine ra_cTp (s4_9 hE0 (show ra_g s7 (E0) 4 - ra_g s7 (E0) 6 = r 0 - r 2 ∧ ra_in (r 0 - r 2) from ⟨by rw [ra_gk (j := 4) (hf9 (E0) (by omega)), ra_gk (j := 6) (hf9 (E0) (by omega))]; omega, by unfold ra_in; omega⟩)) rfl (ct_9 rfl lk_6_114 (Or.inl rfl) (sh_D hE0) (Nat.le_of_ble_eq_true rfl)) ?_
        have hr22 : ra_in ((r 0 - r 2)) := (show ra_g s7 (E0) 4 - ra_g s7 (E0) 6 = r 0 - r 2 ∧ ra_in (r 0 - r 2) from ⟨by rw [ra_gk (j := 4) (hf9 (E0) (by omega)), ra_gk (j := 6) (hf9 (E0) (by omega))]; omega, by unfold ra_in; omega⟩).2
        refine ra_load rfl rfl rfl rfl ?_
        refine ra_isub rfl ?_
        refine ra_cQPs (s4_106 (by first | omega | (unfold ra_in at *; omega)) (by first | omega | (unfold ra_in at *; omega)) (x4TB_k (by omega) hk14 hB) (show ra_g s7 175 4 = ((e1 : Nat) : Int) from (by omega)) (by omega)) rfl (ct_106 rfl lk_6_54 (Or.inl rfl) sh_175 (Nat.le_of_ble_eq_true rfl)) (fun z24 s23 hz24 hz24p hs23 => ?_)
        obtain ⟨hf25, hc26, he27⟩ := hs23
        have hF28 := Fr_tr (lo := 14) (hi := 177) hF12 hf25 (by omega)
        have hk29 : s23 (40) = σ (40) := (hf25 (40) (by omega)).trans hk13
        have hk30 : s23 (176) = σ (176) := hc26.trans hk14
        have hk31 : s23 (E0) = σ (E0) := (hf25 (E0) (by omega)).trans hk15
        refine ra_ifne rfl rfl (ra_in01 hz24) (fun h32 => ?_) (fun h32 => ?_)
        · obtain ⟨-, v2_, e2, hr2, rfl, hp2, he2, hl2, hu2, hk2, hk2b, hn2⟩ := hz24p.resolve_right (fun q => by omega)
          refine ra_load rfl rfl rfl rfl ?_
          refine ra_getI rfl lk_6_58 (Nat.zero_le _) sh_175 rfl ?_
          have hr33 : ra_in (ra_g s23 (175) 7) := (ra_in_g _ _ _)
          refine ra_store (L' := [_, _, _, _, _]) rfl rfl rfl (Nat.le_of_ble_eq_true rfl) rfl ?_
          have hA2 := (x5A6_k (fun j hj => ((hf25 (E0 + j) (by omega)).trans (hf9 (E0 + j) (by omega)))) (by omega) hA)
          refine ra_load rfl rfl rfl rfl ?_
          refine ra_load rfl rfl rfl rfl ?_
          refine ra_i2l rfl hr17 ?_
          refine ra_load rfl rfl rfl rfl ?_
          refine ra_i2l rfl hr33 ?_
          refine ra_cIPp (s4_12 hE0 hr17 hr33 (x5A6_bd hA2)) rfl (ct_12 rfl lk_6_120 (Or.inl rfl) (sh_D hE0) (Nat.le_of_ble_eq_true rfl)) (fun z35 hz35 hz35p => ?_)
          have hmt : x4IFZ _ z35 := (x5A6_mt hA2).symm.trans hz35p.symm
          clear hz35p
          refine ra_ifeq rfl rfl hz35 (fun h36 => ?_) (fun h36 => ?_)
          · refine ra_load rfl rfl rfl rfl ?_
            refine ra_iconst rfl ?_
            refine ra_bipush rfl (by decide) ?_
            refine ra_cQPs (s4_106 (by first | omega | (unfold ra_in at *; omega)) (by first | omega | (unfold ra_in at *; omega)) (x4TB_k (by omega) hk30 hB) (show ra_g s23 175 4 = ((e2 : Nat) : Int) from (by omega)) (by omega)) rfl (ct_106 rfl lk_6_54 (Or.inl rfl) sh_175 (Nat.le_of_ble_eq_true rfl)) (fun z38 s37 hz38 hz38p hs37 => ?_)
            obtain ⟨hf39, hc40, he41⟩ := hs37
            have hF42 := Fr_tr (lo := 14) (hi := 177) hF28 hf39 (by omega)
            have hk43 : s37 (40) = σ (40) := (hf39 (40) (by omega)).trans hk29
            have hk44 : s37 (176) = σ (176) := hc40.trans hk30
            have hk45 : s37 (E0) = σ (E0) := (hf39 (E0) (by omega)).trans hk31
            refine ra_ifne rfl rfl (ra_in01 hz38) (fun h46 => ?_) (fun h46 => ?_)
            · obtain ⟨-, v3_, e3, hr3, rfl, hp3, he3, hl3, hu3, hk3, hk3b, hn3⟩ := hz38p.resolve_right (fun q => by omega)
              refine ra_load rfl rfl rfl rfl ?_
              refine ra_getI rfl lk_6_58 (Nat.zero_le _) sh_175 rfl ?_
              have hr47 : ra_in (ra_g s37 (175) 7) := (ra_in_g _ _ _)
              refine ra_store (L' := [_, _, _, _, _]) rfl rfl rfl (Nat.le_of_ble_eq_true rfl) rfl ?_
              refine ra_load rfl rfl rfl rfl ?_
              refine ra_iconst rfl ?_
              refine ra_load rfl rfl rfl rfl ?_
              refine ra_cQPs (s4_106 (by first | omega | (unfold ra_in at *; omega)) hr33 (x4TB_k (by omega) hk44 hB) (show ra_g s37 175 4 = ((e3 : Nat) : Int) from (by omega)) (by omega)) rfl (ct_106 rfl lk_6_54 (Or.inl rfl) sh_175 (Nat.le_of_ble_eq_true rfl)) (fun z49 s48 hz49 hz49p hs48 => ?_)
              obtain ⟨hf50, hc51, he52⟩ := hs48
              have hF53 := Fr_tr (lo := 14) (hi := 177) hF42 hf50 (by omega)
              have hk54 : s48 (40) = σ (40) := (hf50 (40) (by omega)).trans hk43
              have hk55 : s48 (176) = σ (176) := hc51.trans hk44
              have hk56 : s48 (E0) = σ (E0) := (hf50 (E0) (by omega)).trans hk45
              refine ra_ifne rfl rfl (ra_in01 hz49) (fun h57 => ?_) (fun h57 => ?_)
              · obtain ⟨-, v4_, e4, hr4, rfl, hp4, he4, hl4, hu4, hk4, hk4b, hn4⟩ := hz49p.resolve_right (fun q => by omega)
                have hA4 := (x5A6_k (fun j hj => ((hf50 (E0 + j) (by omega)).trans ((hf39 (E0 + j) (by omega)).trans ((hf25 (E0 + j) (by omega)).trans (hf9 (E0 + j) (by omega)))))) (by omega) hA)
                refine ra_load rfl rfl rfl rfl ?_
                refine ra_load rfl rfl rfl rfl ?_
                refine ra_load rfl rfl rfl rfl ?_
                refine ra_load rfl rfl rfl rfl ?_
                refine ra_load rfl rfl rfl rfl ?_
                refine ra_getI rfl lk_6_58 (Nat.zero_le _) sh_175 rfl ?_
                have hr58 : ra_in (ra_g s48 (175) 7) := (ra_in_g _ _ _)
                refine ra_cI (s9_33 hE0 hr17 hr33 hr47 hr58 (x4SZ_k (fun p hp => ra_gk ((hf50 (E0 + 5 + p) (by omega)).trans ((hf39 (E0 + 5 + p) (by omega)).trans ((hf25 (E0 + 5 + p) (by omega)).trans (hf9 (E0 + 5 + p) (by omega)))))) a6) (by omega)) rfl (ct_33 rfl lk_6_124 (Or.inl rfl) (sh_D hE0) (Nat.le_of_ble_eq_true rfl)) (fun z60 s59  hz60 hs59 => ?_)
                obtain ⟨hf61, he62⟩ := hs59
                have hF63 := Fr_tr (lo := 14) (hi := 177) hF53 hf61 (by omega)
                have hk64 : s59 (40) = σ (40) := (hf61 (40) (by omega)).trans hk54
                have hk65 : s59 (176) = σ (176) := (hf61 (176) (by omega)).trans hk55
                refine ra_pop rfl rfl ?_
                refine ra_iconst rfl ?_
                exact ra_ireturn rfl (ra_okB (Or.inr rfl)) ⟨⟨_, (Or.inr rfl), (x5o6_y rfl (x4part_y (by omega) hr1 (hz19p.mp (by omega)) hr2 (fun q => (Iff.mp hmt q) (by assumption)) hr3 hr4) (x5A6_mk hA4 (by omega) he62 ⟨by omega, by omega, by omega⟩ (hf61 (175) (by omega))) ((ra_gk (hf61 (175) (by omega))).trans (by omega)) (by omega)), rfl⟩, ⟨hF63, hk64, hk65, ((ra_gk (hf61 (175) (by omega))).trans (by omega)), (fun c c1 c2 => ((hf61 c (by omega)).trans ((hf50 c (by omega)).trans ((hf39 c (by omega)).trans ((hf25 c (by omega)).trans (hf9 c (by omega)))))))⟩⟩
              · refine ra_iconst rfl ?_
                exact ra_ireturn rfl (ra_okB (Or.inl rfl)) ⟨⟨_, (Or.inl rfl), (x5o6_rd hz49p (by omega) rfl (fun x hx => x4part_6 (by omega) hr1 (hz19p.mp (by omega)) hr2 (fun q => (Iff.mp hmt q) (by assumption)) hr3 hx)), rfl⟩, ⟨hF53, hk54, hk55, (by omega), (fun c c1 c2 => ((hf50 c (by omega)).trans ((hf39 c (by omega)).trans ((hf25 c (by omega)).trans (hf9 c (by omega))))))⟩⟩
            · refine ra_iconst rfl ?_
              exact ra_ireturn rfl (ra_okB (Or.inl rfl)) ⟨⟨_, (Or.inl rfl), (x5o6_rd hz38p (by omega) rfl (fun x hx => x4part_5 (by omega) hr1 (hz19p.mp (by omega)) hr2 (fun q => (Iff.mp hmt q) (by assumption)) hx)), rfl⟩, ⟨hF42, hk43, hk44, (by omega), (fun c c1 c2 => ((hf39 c (by omega)).trans ((hf25 c (by omega)).trans (hf9 c (by omega)))))⟩⟩
          · refine ra_load rfl rfl rfl rfl ?_
            refine ra_iconst rfl ?_
            refine ra_cQP (s4_107 (by first | omega | (unfold ra_in at *; omega))) rfl (ct_107 rfl lk_6_50 (Or.inl rfl) sh_175 (Nat.le_of_ble_eq_true rfl)) (fun z67 s66 hz67 hz67p hs66 => ?_)
            obtain ⟨hf68, hc69, he70⟩ := hs66
            have hF71 := Fr_tr (lo := 14) (hi := 177) hF28 hf68 (by omega)
            have hk72 : s66 (40) = σ (40) := (hf68 (40) (by omega)).trans hk29
            have hk73 : s66 (176) = σ (176) := hc69.trans hk30
            have hk74 : s66 (E0) = σ (E0) := (hf68 (E0) (by omega)).trans hk31
            exact ra_ireturn rfl (ra_okB hz67) ⟨⟨_, hz67, (x5o6_f (c := 4) (a := tx_a B bn e1) hz67p (x4part_4 (by omega) hr1 (hz19p.mp (by omega)) hr2 (Iff.mpr hmt (by assumption))) (by omega) (by omega)), rfl⟩, ⟨hF71, hk72, hk73, (by omega), (fun c c1 c2 => ((hf68 c (by omega)).trans ((hf25 c (by omega)).trans (hf9 c (by omega)))))⟩⟩
        · refine ra_iconst rfl ?_
          exact ra_ireturn rfl (ra_okB (Or.inl rfl)) ⟨⟨_, (Or.inl rfl), (x5o6_rd hz24p (by omega) rfl (fun x hx => x4part_3 (by omega) hr1 (hz19p.mp (by omega)) hx)), rfl⟩, ⟨hF28, hk29, hk30, (by omega), (fun c c1 c2 => ((hf25 c (by omega)).trans (hf9 c (by omega))))⟩⟩
      · refine ra_load rfl rfl rfl rfl ?_
        refine ra_iconst rfl ?_
        refine ra_cQP (s4_107 (by first | omega | (unfold ra_in at *; omega))) rfl (ct_107 rfl lk_6_50 (Or.inl rfl) sh_175 (Nat.le_of_ble_eq_true rfl)) (fun z76 s75 hz76 hz76p hs75 => ?_)
        obtain ⟨hf77, hc78, he79⟩ := hs75
        have hF80 := Fr_tr (lo := 14) (hi := 177) hF12 hf77 (by omega)
        have hk81 : s75 (40) = σ (40) := (hf77 (40) (by omega)).trans hk13
        have hk82 : s75 (176) = σ (176) := hc78.trans hk14
        have hk83 : s75 (E0) = σ (E0) := (hf77 (E0) (by omega)).trans hk15
        exact ra_ireturn rfl (ra_okB hz76) ⟨⟨_, hz76, (x5o6_f (c := 2) (a := tx_a B bn (tx_e B bn ta)) hz76p (x4part_2 (by omega) hr1 (fun q => absurd (hz19p.mpr q) (by omega))) (by omega) (by omega)), rfl⟩, ⟨hF80, hk81, hk82, (by omega), (fun c c1 c2 => ((hf77 c (by omega)).trans (hf9 c (by omega))))⟩⟩
    · refine ra_iconst rfl ?_
      exact ra_ireturn rfl (ra_okB (Or.inl rfl)) ⟨⟨_, (Or.inl rfl), (x5o6_rd hz8p (by omega) rfl (fun x hx => x4part_1 (by omega) hx)), rfl⟩, ⟨hF12, hk13, hk14, (by omega), (fun c c1 c2 => (hf9 c (by omega)))⟩⟩
  · refine ra_load rfl rfl rfl rfl ?_
    refine ra_iconst rfl ?_
    refine ra_cQP (s4_107 (by first | omega | (unfold ra_in at *; omega))) rfl (ct_107 rfl lk_6_50 (Or.inl rfl) sh_175 (Nat.le_of_ble_eq_true rfl)) (fun z85 s84 hz85 hz85p hs84 => ?_)
    obtain ⟨hf86, hc87, he88⟩ := hs84
    have hF89 := Fr_tr (lo := 14) (hi := 177) Fr_rf hf86 (by omega)
    have hk90 : s84 (40) = σ (40) := (hf86 (40) (by omega))
    have hk91 : s84 (176) = σ (176) := hc87
    have hk92 : s84 (E0) = σ (E0) := (hf86 (E0) (by omega))
    exact ra_ireturn rfl (ra_okB hz85) ⟨⟨_, hz85, (x5o6_f (c := 5) (a := ta) hz85p (x4part_0 (by omega)) (by omega) (by omega)), rfl⟩, ⟨hF89, hk90, hk91, (by omega), (fun c c1 c2 => (hf86 c (by omega)))⟩⟩
end
