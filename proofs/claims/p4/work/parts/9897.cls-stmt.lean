/-! T4: what the class's methods that read a text do (printed by wip/gen/c4.py) -/
section
variable {B : Nat → Int} {bn ps ta : Nat} {pk uv al : Int} {r : Nat → Int}
theorem s4_102 {n : Nat} {f : Nat → Int32} {d : Nat} {E0 : Nat} {σ : ra_V} (hE0 : isD E0) (hq : E0 = 14) (hB : x4TB σ B bn) (hN : x4NXC B bn σ ta) (hA : x4AR r σ E0) : ra_C (g_Gs n f) g_sh 0 (d + 4) 102 [.index (175), .index (E0)] σ (fun r s => (∃ z : Int, (z = 0 ∨ z = 1) ∧ (x4OC bn s E0 z (tx_set B bn r ta 4 104 false 1 16)) ∧ r = .inl (some (ra_I z))) ∧ Fr (14) (177) σ s ∧ s (40) = σ (40) ∧ s (176) = σ (176) ∧ ra_g s 175 1 = ra_g σ 175 1) := by
  refine ra_enter (nn := 0) mt_102 rfl (Nat.le_of_ble_eq_true rfl) rfl (fun h => absurd h (by decide +kernel)) ?_
  have hA0 := hA
  obtain ⟨a1, a2, a3, a4, a5, a6, a7⟩ := hA0
  have hN0 := hN
  obtain ⟨n1, n2, n3, n4, n5, n6, n7, n8, n9⟩ := hN0
  have hB0 := hB
  obtain ⟨b1, b2, b3, b4⟩ := hB0
  refine ra_load rfl rfl rfl rfl ?_
  refine ra_getB rfl lk_6_38 (Nat.zero_le _) sh_175 rfl ?_
  refine ra_ifeqB rfl rfl (fun h1 => ?_) (fun h1 => ?_)
  · refine ra_load rfl rfl rfl rfl ?_
    refine ra_iconst rfl ?_
    refine ra_putB rfl lk_6_38 (Nat.zero_le _) sh_175 rfl rfl (Or.inr rfl) ?_
    refine ra_newU (ra_in01 (Or.inr rfl)) (fun s2 hs2 hp3 hp3o => ?_)
    have hp3_1 := hp3o 1 (by decide)
    have hp3_2 := hp3o 2 (by decide)
    have hp3_3 := hp3o 3 (by decide)
    have hp3_4 := hp3o 4 (by decide)
    have hp3_5 := hp3o 5 (by decide)
    have hp3_6 := hp3o 6 (by decide)
    have hp3_7 := hp3o 7 (by decide)
    have hp3_8 := hp3o 8 (by decide)
    have hp3_9 := hp3o 9 (by decide)
    have hp3_10 := hp3o 10 (by decide)
    have hF4 := Fr_tr (lo := 14) (hi := 177) Fr_rf hs2 (by omega)
    have hk5 : s2 (40) = σ (40) := (hs2 (40) (by omega))
    have hk6 : s2 (176) = σ (176) := (hs2 (176) (by omega))
    have hk7 : s2 (E0) = σ (E0) := (hs2 (E0) (by omega))
    refine ra_load rfl rfl rfl rfl ?_
    refine ra_iconst rfl ?_
    refine ra_bipush rfl (by decide) ?_
    refine ra_cQPs (s4_106 (by first | omega | (unfold ra_in at *; omega)) (by first | omega | (unfold ra_in at *; omega)) (x4TB_k (by omega) hk6 hB) (show ra_g s2 175 4 = ((tx_e B bn ta : Nat) : Int) from (by omega)) (by omega)) rfl (ct_106 rfl lk_6_54 (Or.inl rfl) sh_175 (Nat.le_of_ble_eq_true rfl)) (fun z9 s8 hz9 hz9p hs8 => ?_)
    obtain ⟨hf10, hc11, he12⟩ := hs8
    have hF13 := Fr_tr (lo := 14) (hi := 177) hF4 hf10 (by omega)
    have hk14 : s8 (40) = σ (40) := (hf10 (40) (by omega)).trans hk5
    have hk15 : s8 (176) = σ (176) := hc11.trans hk6
    have hk16 : s8 (E0) = σ (E0) := (hf10 (E0) (by omega)).trans hk7
    refine ra_ifne rfl rfl (ra_in01 hz9) (fun h17 => ?_) (fun h17 => ?_)
    · obtain ⟨-, v1_, e1, hr1, rfl, hp1, he1, hl1, hu1, hk1, hk1b, hn1⟩ := hz9p.resolve_right (fun q => by omega)
      refine ra_load rfl rfl rfl rfl ?_
      refine ra_load rfl rfl rfl rfl ?_
      refine ra_getI rfl lk_6_58 (Nat.zero_le _) sh_175 rfl ?_
      have hr18 : ra_in (ra_g s8 (175) 7) := (ra_in_g _ _ _)
      refine ra_putI rfl lk_6_112 (Nat.zero_le _) (sh_D hE0) rfl rfl ?_
      refine ra_newU hr18 (fun s19 hs19 hp20 hp20o => ?_)
      have hp20_4 := hp20o 4 (by decide)
      rw [ra_gk hk16] at hp20_4
      have hp20_5 := hp20o 5 (by decide)
      rw [ra_gk hk16] at hp20_5
      have hp20_6 := hp20o 6 (by decide)
      rw [ra_gk hk16] at hp20_6
      have hp20_7 := hp20o 7 (by decide)
      rw [ra_gk hk16] at hp20_7
      have hF21 := Fr_tr (lo := 14) (hi := 177) hF13 hs19 (by omega)
      have hk22 : s19 (40) = σ (40) := (hs19 (40) (by omega)).trans hk14
      have hk23 : s19 (176) = σ (176) := (hs19 (176) (by omega)).trans hk15
      refine ra_iconst rfl ?_
      exact ra_ireturn rfl (ra_okB (Or.inr rfl)) ⟨⟨_, (Or.inr rfl), (x4oc_y rfl (x4set_y (fun q => absurd q.1 (by decide)) (by omega) hr1) (x4AR_set (w := 4) (by omega) hA ⟨fun q => by omega, fun q => by omega⟩ (fun j j1 j2 j3 => ((hp20o j (by omega)).trans ((ra_gk (hf10 (E0) (by omega))).trans (ra_gk (hs2 (E0) (by omega)))))) (by omega) ((ra_gk (hs19 (175) (by omega))).trans (by omega)) (fun j j1 j2 j3 => ((ra_gk (hs19 (175) (by omega))).trans (by rcases (show j = 8 ∨ j = 9 ∨ j = 10 ∨ j = 11 by omega) with rfl | rfl | rfl | rfl <;> omega))) ⟨((ra_gk (hs19 (175) (by omega))).trans (by omega)), ((ra_gk (hs19 (175) (by omega))).trans (by omega))⟩ (fun p hp => ((hs19 (E0 + 5 + p) (by omega)).trans ((hf10 (E0 + 5 + p) (by omega)).trans (hs2 (E0 + 5 + p) (by omega)))))) ((ra_gk (hs19 (175) (by omega))).trans (by omega)) (by omega)), rfl⟩, ⟨hF21, hk22, hk23, ((ra_gk (hs19 (175) (by omega))).trans (by omega))⟩⟩
    · refine ra_iconst rfl ?_
      exact ra_ireturn rfl (ra_okB (Or.inl rfl)) ⟨⟨_, (Or.inl rfl), (x4oc_rd hz9p (by omega) rfl (fun x hx => x4set_n (fun q => absurd q.1 (by decide)) (by omega) hx)), rfl⟩, ⟨hF13, hk14, hk15, (by omega)⟩⟩
  · refine ra_load rfl rfl rfl rfl ?_
    refine ra_iconst rfl ?_
    refine ra_cQP (s4_107 (by first | omega | (unfold ra_in at *; omega))) rfl (ct_107 rfl lk_6_50 (Or.inl rfl) sh_175 (Nat.le_of_ble_eq_true rfl)) (fun z25 s24 hz25 hz25p hs24 => ?_)
    obtain ⟨hf26, hc27, he28⟩ := hs24
    have hF29 := Fr_tr (lo := 14) (hi := 177) Fr_rf hf26 (by omega)
    have hk30 : s24 (40) = σ (40) := (hf26 (40) (by omega))
    have hk31 : s24 (176) = σ (176) := hc27
    have hk32 : s24 (E0) = σ (E0) := (hf26 (E0) (by omega))
    exact ra_ireturn rfl (ra_okB hz25) ⟨⟨_, hz25, (x4oc_f (c := 3) (a := ta) hz25p (x4set_t (fun q => absurd q.1 (by decide)) (by omega)) (by omega) (by omega)), rfl⟩, ⟨hF29, hk30, hk31, (by omega)⟩⟩
theorem s4_104 {n : Nat} {f : Nat → Int32} {d : Nat} {E0 : Nat} {σ : ra_V} (hE0 : isD E0) (hq : E0 = 14) (hB : x4TB σ B bn) (hN : x4NXC B bn σ ta) (hA : x4AR r σ E0) : ra_C (g_Gs n f) g_sh 0 (d + 4) 104 [.index (175), .index (E0)] σ (fun r s => (∃ z : Int, (z = 0 ∨ z = 1) ∧ (x4OC bn s E0 z (tx_lock B bn r ta)) ∧ r = .inl (some (ra_I z))) ∧ Fr (14) (177) σ s ∧ s (40) = σ (40) ∧ s (176) = σ (176) ∧ ra_g s 175 1 = ra_g σ 175 1) := by
  refine ra_enter (nn := 1) mt_104 rfl (Nat.le_of_ble_eq_true rfl) rfl (fun h => absurd h (by decide +kernel)) ?_
  have hA0 := hA
  obtain ⟨a1, a2, a3, a4, a5, a6, a7⟩ := hA0
  have hN0 := hN
  obtain ⟨n1, n2, n3, n4, n5, n6, n7, n8, n9⟩ := hN0
  have hB0 := hB
  obtain ⟨b1, b2, b3, b4⟩ := hB0
  refine ra_load rfl rfl rfl rfl ?_
  refine ra_iconst rfl ?_
  refine ra_load rfl rfl rfl rfl ?_
  refine ra_cTp (s4_4 hE0 a6) rfl (ct_4 rfl lk_6_102 (Or.inl rfl) (sh_D hE0) (Nat.le_of_ble_eq_true rfl)) ?_
  have hr2 : ra_in ((r 5)) := (x4SZ_in a6)
  refine ra_iconst rfl ?_
  refine ra_isub rfl ?_
  refine ra_cQPs (s4_106 (by first | omega | (unfold ra_in at *; omega)) (by first | omega | (unfold ra_in at *; omega)) hB (show ra_g σ 175 4 = ((tx_e B bn ta : Nat) : Int) from (by omega)) (by omega)) rfl (ct_106 rfl lk_6_54 (Or.inl rfl) sh_175 (Nat.le_of_ble_eq_true rfl)) (fun z4 s3 hz4 hz4p hs3 => ?_)
  obtain ⟨hf5, hc6, he7⟩ := hs3
  have hF8 := Fr_tr (lo := 14) (hi := 177) Fr_rf hf5 (by omega)
  have hk9 : s3 (40) = σ (40) := (hf5 (40) (by omega))
  have hk10 : s3 (176) = σ (176) := hc6
  have hk11 : s3 (E0) = σ (E0) := (hf5 (E0) (by omega))
  refine ra_ifne rfl rfl (ra_in01 hz4) (fun h12 => ?_) (fun h12 => ?_)
  · obtain ⟨-, v1_, e1, hr1, rfl, hp1, he1, hl1, hu1, hk1, hk1b, hn1⟩ := hz4p.resolve_right (fun q => by omega)
    refine ra_load rfl rfl rfl rfl ?_
    refine ra_load rfl rfl rfl rfl ?_
    refine ra_getI rfl lk_6_58 (Nat.zero_le _) sh_175 rfl ?_
    have hr13 : ra_in (ra_g s3 (175) 7) := (ra_in_g _ _ _)
    refine ra_cTp (s4_3 hE0 hr13 (x4SZ_k (fun p hp => ra_gk (hf5 (E0 + 5 + p) (by omega))) a6) (by omega)) rfl (ct_3 rfl lk_6_128 (Or.inl rfl) (sh_D hE0) (Nat.le_of_ble_eq_true rfl)) ?_
    have hi15 : (ra_g s3 (175) 7).toNat < 8 := by omega
    refine ra_store (L' := [_, _, _]) rfl rfl rfl (Nat.le_of_ble_eq_true rfl) rfl ?_
    refine ra_load rfl rfl rfl rfl ?_
    refine ra_nnullT rfl rfl ?_
    have b7 := a7 (ra_g s3 (175) 7).toNat (by omega) (by omega)
    have c7 : ∀ j, ra_g s3 (E0 + 5 + (ra_g s3 (175) 7).toNat) j = ra_g σ (E0 + 5 + (ra_g s3 (175) 7).toNat) j := fun j => ra_gk (hf5 (E0 + 5 + (ra_g s3 (175) 7).toNat) (by omega))
    have c71 := c7 1
    have c72 := c7 2
    have c75 := c7 5
    refine ra_load rfl rfl rfl rfl ?_
    refine ra_getB rfl lk_6_132 (Nat.zero_le _) (sh_P hE0 hi15) rfl ?_
    refine ra_ifeqB rfl rfl (fun h16 => ?_) (fun h16 => ?_)
    · refine ra_load rfl rfl rfl rfl ?_
      refine ra_iconst rfl ?_
      refine ra_putB rfl lk_6_132 (Nat.zero_le _) (sh_P hE0 hi15) rfl rfl (Or.inr rfl) ?_
      refine ra_newU (by first | omega | (unfold ra_in at *; omega)) (fun s17 hs17 hpl hplo => ?_)
      have hF18 := Fr_tr (lo := 14) (hi := 177) hF8 hs17 (by omega)
      have hk19 : s17 (40) = σ (40) := (hs17 (40) (by omega)).trans hk9
      have hk20 : s17 (176) = σ (176) := (hs17 (176) (by omega)).trans hk10
      have hk21 : s17 (E0) = σ (E0) := (hs17 (E0) (by omega)).trans hk11
      refine ra_iconst rfl ?_
      exact ra_ireturn rfl (ra_okB (Or.inr rfl)) ⟨⟨_, (Or.inr rfl), (x4oc_y rfl (x4lock_y hr1 (by omega)) (x4AR_lock (j := (ra_g s3 (175) 7).toNat) (by omega) (by omega) hA ((hs17 (E0) (by omega)).trans (hf5 (E0) (by omega))) (fun p p0 p1 => ((hs17 (E0 + 5 + p) (by omega)).trans (hf5 (E0 + 5 + p) (by omega)))) hpl ⟨by omega, by omega⟩ ⟨((ra_gk (hs17 (175) (by omega))).trans (by omega)), ((ra_gk (hs17 (175) (by omega))).trans (by omega)), ((ra_gk (hs17 (175) (by omega))).trans (by omega)), ((ra_gk (hs17 (175) (by omega))).trans (by omega)), ((ra_gk (hs17 (175) (by omega))).trans (by omega)), ((ra_gk (hs17 (175) (by omega))).trans (by omega))⟩) ((ra_gk (hs17 (175) (by omega))).trans (by omega)) (by omega)), rfl⟩, ⟨hF18, hk19, hk20, ((ra_gk (hs17 (175) (by omega))).trans (by omega))⟩⟩
    · refine ra_load rfl rfl rfl rfl ?_
      refine ra_iconst rfl ?_
      refine ra_cQP (s4_107 (by first | omega | (unfold ra_in at *; omega))) rfl (ct_107 rfl lk_6_50 (Or.inl rfl) sh_175 (Nat.le_of_ble_eq_true rfl)) (fun z23 s22 hz23 hz23p hs22 => ?_)
      obtain ⟨hf24, hc25, he26⟩ := hs22
      have hF27 := Fr_tr (lo := 14) (hi := 177) hF8 hf24 (by omega)
      have hk28 : s22 (40) = σ (40) := (hf24 (40) (by omega)).trans hk9
      have hk29 : s22 (176) = σ (176) := hc25.trans hk10
      have hk30 : s22 (E0) = σ (E0) := (hf24 (E0) (by omega)).trans hk11
      exact ra_ireturn rfl (ra_okB hz23) ⟨⟨_, hz23, (x4oc_f (c := 3) (a := tx_a B bn (tx_e B bn ta)) hz23p (x4lock_t hr1 (by omega)) (by omega) (by omega)), rfl⟩, ⟨hF27, hk28, hk29, (by omega)⟩⟩
  · refine ra_iconst rfl ?_
    exact ra_ireturn rfl (ra_okB (Or.inl rfl)) ⟨⟨_, (Or.inl rfl), (x4oc_rd hz4p (by omega) rfl (fun x hx => x4lock_n hx)), rfl⟩, ⟨hF8, hk9, hk10, (by omega)⟩⟩
theorem s4_103 {n : Nat} {f : Nat → Int32} {d : Nat} {E0 : Nat} {σ : ra_V} (hE0 : isD E0) (hq : E0 = 14) (hB : x4TB σ B bn) (hN : x4NXC B bn σ ta) (hA : x4AR r σ E0) : ra_C (g_Gs n f) g_sh 0 (d + 4) 103 [.index (175), .index (E0)] σ (fun r s => (∃ z : Int, (z = 0 ∨ z = 1) ∧ (x4OC bn s E0 z (tx_part B bn r ta)) ∧ r = .inl (some (ra_I z))) ∧ Fr (14) (177) σ s ∧ s (40) = σ (40) ∧ s (176) = σ (176) ∧ ra_g s 175 1 = ra_g σ 175 1) := by
  refine ra_enter (nn := 3) mt_103 rfl (Nat.le_of_ble_eq_true rfl) rfl (fun h => absurd h (by decide +kernel)) ?_
  have hA0 := hA
  obtain ⟨a1, a2, a3, a4, a5, a6, a7⟩ := hA0
  have hN0 := hN
  obtain ⟨n1, n2, n3, n4, n5, n6, n7, n8, n9⟩ := hN0
  have hB0 := hB
  obtain ⟨b1, b2, b3, b4⟩ := hB0
  refine ra_load rfl rfl rfl rfl ?_
  refine ra_cTp (s4_4 hE0 a6) rfl (ct_4 rfl lk_6_102 (Or.inl rfl) (sh_D hE0) (Nat.le_of_ble_eq_true rfl)) ?_
  have hr2 : ra_in ((r 5)) := (x4SZ_in a6)
  refine ra_bipush rfl (by decide) ?_
  refine ra_iclt rfl rfl hr2 (by first | omega | (unfold ra_in at *; omega)) (fun h3 => ?_) (fun h3 => ?_)
  · refine ra_load rfl rfl rfl rfl ?_
    refine ra_load rfl rfl rfl rfl ?_
    refine ra_getI rfl lk_6_106 (Nat.zero_le _) (sh_D hE0) rfl ?_
    have hr4 : ra_in (ra_g σ (E0) 5) := (ra_in_g _ _ _)
    refine ra_load rfl rfl rfl rfl ?_
    refine ra_cTp (s4_9 hE0 ⟨by omega, by unfold ra_in; omega⟩) rfl (ct_9 rfl lk_6_114 (Or.inl rfl) (sh_D hE0) (Nat.le_of_ble_eq_true rfl)) ?_
    refine ra_iconst rfl ?_
    refine ra_isub rfl ?_
    refine ra_cQPs (s4_106 hr4 (by first | omega | (unfold ra_in at *; omega)) hB (show ra_g σ 175 4 = ((tx_e B bn ta : Nat) : Int) from (by omega)) (by omega)) rfl (ct_106 rfl lk_6_54 (Or.inl rfl) sh_175 (Nat.le_of_ble_eq_true rfl)) (fun z7 s6 hz7 hz7p hs6 => ?_)
    obtain ⟨hf8, hc9, he10⟩ := hs6
    have hF11 := Fr_tr (lo := 14) (hi := 177) Fr_rf hf8 (by omega)
    have hk12 : s6 (40) = σ (40) := (hf8 (40) (by omega))
    have hk13 : s6 (176) = σ (176) := hc9
    have hk14 : s6 (E0) = σ (E0) := (hf8 (E0) (by omega))
    rw [show ra_g σ (E0) 5 = r 1 from a1.2.1] at hz7p
    refine ra_ifne rfl rfl (ra_in01 hz7) (fun h15 => ?_) (fun h15 => ?_)
    · obtain ⟨-, v1_, e1, hr1, rfl, hp1, he1, hl1, hu1, hk1, hk1b, hn1⟩ := hz7p.resolve_right (fun q => by omega)
      refine ra_load rfl rfl rfl rfl ?_
      refine ra_getI rfl lk_6_58 (Nat.zero_le _) sh_175 rfl ?_
      have hr16 : ra_in (ra_g s6 (175) 7) := (ra_in_g _ _ _)
      refine ra_store (L' := [_, _, _, _, _]) rfl rfl rfl (Nat.le_of_ble_eq_true rfl) rfl ?_
      refine ra_load rfl rfl rfl rfl ?_
      refine ra_load rfl rfl rfl rfl ?_
      refine ra_cQPp (s4_11 hE0 hr16 ⟨(ra_gk (hf8 (E0) (by omega))).trans a1.2.2.2.1, by omega, by omega⟩) rfl (ct_11 rfl lk_6_117 (Or.inl rfl) (sh_D hE0) (Nat.le_of_ble_eq_true rfl)) (fun z18 hz18 hz18p => ?_)
      refine ra_ifne rfl rfl (ra_in01 hz18) (fun h19 => ?_) (fun h19 => ?_)
      · refine ra_load rfl rfl rfl rfl ?_
        refine ra_iconst rfl ?_
        refine ra_load rfl rfl rfl rfl ?_
        refine ra_cTp (s4_9 hE0 ⟨by rw [ra_gk (j := 4) (hf8 (E0) (by omega)), ra_gk (j := 6) (hf8 (E0) (by omega))]; omega, by unfold ra_in; omega⟩) rfl (ct_9 rfl lk_6_114 (Or.inl rfl) (sh_D hE0) (Nat.le_of_ble_eq_true rfl)) ?_
        refine ra_load rfl rfl rfl rfl ?_
        refine ra_isub rfl ?_
        refine ra_cQPs (s4_106 (by first | omega | (unfold ra_in at *; omega)) (by first | omega | (unfold ra_in at *; omega)) (x4TB_k (by omega) hk13 hB) (show ra_g s6 175 4 = ((e1 : Nat) : Int) from (by omega)) (by omega)) rfl (ct_106 rfl lk_6_54 (Or.inl rfl) sh_175 (Nat.le_of_ble_eq_true rfl)) (fun z22 s21 hz22 hz22p hs21 => ?_)
        obtain ⟨hf23, hc24, he25⟩ := hs21
        have hF26 := Fr_tr (lo := 14) (hi := 177) hF11 hf23 (by omega)
        have hk27 : s21 (40) = σ (40) := (hf23 (40) (by omega)).trans hk12
        have hk28 : s21 (176) = σ (176) := hc24.trans hk13
        have hk29 : s21 (E0) = σ (E0) := (hf23 (E0) (by omega)).trans hk14
        refine ra_ifne rfl rfl (ra_in01 hz22) (fun h30 => ?_) (fun h30 => ?_)
        · obtain ⟨-, v2_, e2, hr2, rfl, hp2, he2, hl2, hu2, hk2, hk2b, hn2⟩ := hz22p.resolve_right (fun q => by omega)
          refine ra_load rfl rfl rfl rfl ?_
          refine ra_getI rfl lk_6_58 (Nat.zero_le _) sh_175 rfl ?_
          have hr31 : ra_in (ra_g s21 (175) 7) := (ra_in_g _ _ _)
          refine ra_store (L' := [_, _, _, _, _]) rfl rfl rfl (Nat.le_of_ble_eq_true rfl) rfl ?_
          have hA2 := (x4AR_k (fun j hj => ((hf23 (E0 + j) (by omega)).trans (hf8 (E0 + j) (by omega)))) (by omega) hA)
          refine ra_load rfl rfl rfl rfl ?_
          refine ra_load rfl rfl rfl rfl ?_
          refine ra_i2l rfl hr16 ?_
          refine ra_load rfl rfl rfl rfl ?_
          refine ra_i2l rfl hr31 ?_
          refine ra_cIPp (s4_12 hE0 hr16 hr31 (x4AR_bd hA2)) rfl (ct_12 rfl lk_6_120 (Or.inl rfl) (sh_D hE0) (Nat.le_of_ble_eq_true rfl)) (fun z33 hz33 hz33p => ?_)
          have hmt := (x4AR_mt hA2).symm.trans hz33p.symm
          refine ra_ifeq rfl rfl hz33 (fun h34 => ?_) (fun h34 => ?_)
          · refine ra_load rfl rfl rfl rfl ?_
            refine ra_iconst rfl ?_
            refine ra_bipush rfl (by decide) ?_
            refine ra_cQPs (s4_106 (by first | omega | (unfold ra_in at *; omega)) (by first | omega | (unfold ra_in at *; omega)) (x4TB_k (by omega) hk28 hB) (show ra_g s21 175 4 = ((e2 : Nat) : Int) from (by omega)) (by omega)) rfl (ct_106 rfl lk_6_54 (Or.inl rfl) sh_175 (Nat.le_of_ble_eq_true rfl)) (fun z36 s35 hz36 hz36p hs35 => ?_)
            obtain ⟨hf37, hc38, he39⟩ := hs35
            have hF40 := Fr_tr (lo := 14) (hi := 177) hF26 hf37 (by omega)
            have hk41 : s35 (40) = σ (40) := (hf37 (40) (by omega)).trans hk27
            have hk42 : s35 (176) = σ (176) := hc38.trans hk28
            have hk43 : s35 (E0) = σ (E0) := (hf37 (E0) (by omega)).trans hk29
            refine ra_ifne rfl rfl (ra_in01 hz36) (fun h44 => ?_) (fun h44 => ?_)
            · obtain ⟨-, v3_, e3, hr3, rfl, hp3, he3, hl3, hu3, hk3, hk3b, hn3⟩ := hz36p.resolve_right (fun q => by omega)
              refine ra_load rfl rfl rfl rfl ?_
              refine ra_getI rfl lk_6_58 (Nat.zero_le _) sh_175 rfl ?_
              have hr45 : ra_in (ra_g s35 (175) 7) := (ra_in_g _ _ _)
              refine ra_store (L' := [_, _, _, _, _]) rfl rfl rfl (Nat.le_of_ble_eq_true rfl) rfl ?_
              refine ra_load rfl rfl rfl rfl ?_
              refine ra_iconst rfl ?_
              refine ra_load rfl rfl rfl rfl ?_
              refine ra_cQPs (s4_106 (by first | omega | (unfold ra_in at *; omega)) hr31 (x4TB_k (by omega) hk42 hB) (show ra_g s35 175 4 = ((e3 : Nat) : Int) from (by omega)) (by omega)) rfl (ct_106 rfl lk_6_54 (Or.inl rfl) sh_175 (Nat.le_of_ble_eq_true rfl)) (fun z47 s46 hz47 hz47p hs46 => ?_)
              obtain ⟨hf48, hc49, he50⟩ := hs46
              have hF51 := Fr_tr (lo := 14) (hi := 177) hF40 hf48 (by omega)
              have hk52 : s46 (40) = σ (40) := (hf48 (40) (by omega)).trans hk41
              have hk53 : s46 (176) = σ (176) := hc49.trans hk42
              have hk54 : s46 (E0) = σ (E0) := (hf48 (E0) (by omega)).trans hk43
              refine ra_ifne rfl rfl (ra_in01 hz47) (fun h55 => ?_) (fun h55 => ?_)
              · obtain ⟨-, v4_, e4, hr4, rfl, hp4, he4, hl4, hu4, hk4, hk4b, hn4⟩ := hz47p.resolve_right (fun q => by omega)
                have hA4 := (x4AR_k (fun j hj => ((hf48 (E0 + j) (by omega)).trans ((hf37 (E0 + j) (by omega)).trans ((hf23 (E0 + j) (by omega)).trans (hf8 (E0 + j) (by omega)))))) (by omega) hA)
                refine ra_load rfl rfl rfl rfl ?_
                refine ra_load rfl rfl rfl rfl ?_
                refine ra_load rfl rfl rfl rfl ?_
                refine ra_load rfl rfl rfl rfl ?_
                refine ra_load rfl rfl rfl rfl ?_
                refine ra_getI rfl lk_6_58 (Nat.zero_le _) sh_175 rfl ?_
                have hr56 : ra_in (ra_g s46 (175) 7) := (ra_in_g _ _ _)
                refine ra_cI (s4_33 hE0 hr16 hr31 hr45 hr56 (x4SZ_k (fun p hp => ra_gk ((hf48 (E0 + 5 + p) (by omega)).trans ((hf37 (E0 + 5 + p) (by omega)).trans ((hf23 (E0 + 5 + p) (by omega)).trans (hf8 (E0 + 5 + p) (by omega)))))) a6) (by omega)) rfl (ct_33 rfl lk_6_124 (Or.inl rfl) (sh_D hE0) (Nat.le_of_ble_eq_true rfl)) (fun z58 s57  hz58 hs57 => ?_)
                obtain ⟨hf59, he60⟩ := hs57
                have hF61 := Fr_tr (lo := 14) (hi := 177) hF51 hf59 (by omega)
                have hk62 : s57 (40) = σ (40) := (hf59 (40) (by omega)).trans hk52
                have hk63 : s57 (176) = σ (176) := (hf59 (176) (by omega)).trans hk53
                have hk64 : s57 (E0) = σ (E0) := (hf59 (E0) (by omega)).trans hk54
                refine ra_pop rfl rfl ?_
                refine ra_iconst rfl ?_
                exact ra_ireturn rfl (ra_okB (Or.inr rfl)) ⟨⟨_, (Or.inr rfl), (x4oc_y rfl (x4part_y (by omega) hr1 (hz18p.mp (by omega)) hr2 (fun q => absurd (hmt.mp q) (by omega)) hr3 hr4) (x4AR_mk hA4 (by omega) he60 ⟨by omega, by omega, by omega⟩ (hf59 (175) (by omega))) ((ra_gk (hf59 (175) (by omega))).trans (by omega)) (by omega)), rfl⟩, ⟨hF61, hk62, hk63, ((ra_gk (hf59 (175) (by omega))).trans (by omega))⟩⟩
              · refine ra_iconst rfl ?_
                exact ra_ireturn rfl (ra_okB (Or.inl rfl)) ⟨⟨_, (Or.inl rfl), (x4oc_rd hz47p (by omega) rfl (fun x hx => x4part_6 (by omega) hr1 (hz18p.mp (by omega)) hr2 (fun q => absurd (hmt.mp q) (by omega)) hr3 hx)), rfl⟩, ⟨hF51, hk52, hk53, (by omega)⟩⟩
            · refine ra_iconst rfl ?_
              exact ra_ireturn rfl (ra_okB (Or.inl rfl)) ⟨⟨_, (Or.inl rfl), (x4oc_rd hz36p (by omega) rfl (fun x hx => x4part_5 (by omega) hr1 (hz18p.mp (by omega)) hr2 (fun q => absurd (hmt.mp q) (by omega)) hx)), rfl⟩, ⟨hF40, hk41, hk42, (by omega)⟩⟩
          · refine ra_load rfl rfl rfl rfl ?_
            refine ra_iconst rfl ?_
            refine ra_cQP (s4_107 (by first | omega | (unfold ra_in at *; omega))) rfl (ct_107 rfl lk_6_50 (Or.inl rfl) sh_175 (Nat.le_of_ble_eq_true rfl)) (fun z66 s65 hz66 hz66p hs65 => ?_)
            obtain ⟨hf67, hc68, he69⟩ := hs65
            have hF70 := Fr_tr (lo := 14) (hi := 177) hF26 hf67 (by omega)
            have hk71 : s65 (40) = σ (40) := (hf67 (40) (by omega)).trans hk27
            have hk72 : s65 (176) = σ (176) := hc68.trans hk28
            have hk73 : s65 (E0) = σ (E0) := (hf67 (E0) (by omega)).trans hk29
            exact ra_ireturn rfl (ra_okB hz66) ⟨⟨_, hz66, (x4oc_f (c := 4) (a := tx_a B bn e1) hz66p (x4part_4 (by omega) hr1 (hz18p.mp (by omega)) hr2 (hmt.mpr (by omega))) (by omega) (by omega)), rfl⟩, ⟨hF70, hk71, hk72, (by omega)⟩⟩
        · refine ra_iconst rfl ?_
          exact ra_ireturn rfl (ra_okB (Or.inl rfl)) ⟨⟨_, (Or.inl rfl), (x4oc_rd hz22p (by omega) rfl (fun x hx => x4part_3 (by omega) hr1 (hz18p.mp (by omega)) hx)), rfl⟩, ⟨hF26, hk27, hk28, (by omega)⟩⟩
      · refine ra_load rfl rfl rfl rfl ?_
        refine ra_iconst rfl ?_
        refine ra_cQP (s4_107 (by first | omega | (unfold ra_in at *; omega))) rfl (ct_107 rfl lk_6_50 (Or.inl rfl) sh_175 (Nat.le_of_ble_eq_true rfl)) (fun z75 s74 hz75 hz75p hs74 => ?_)
        obtain ⟨hf76, hc77, he78⟩ := hs74
        have hF79 := Fr_tr (lo := 14) (hi := 177) hF11 hf76 (by omega)
        have hk80 : s74 (40) = σ (40) := (hf76 (40) (by omega)).trans hk12
        have hk81 : s74 (176) = σ (176) := hc77.trans hk13
        have hk82 : s74 (E0) = σ (E0) := (hf76 (E0) (by omega)).trans hk14
        exact ra_ireturn rfl (ra_okB hz75) ⟨⟨_, hz75, (x4oc_f (c := 2) (a := tx_a B bn (tx_e B bn ta)) hz75p (x4part_2 (by omega) hr1 (fun q => absurd (hz18p.mpr q) (by omega))) (by omega) (by omega)), rfl⟩, ⟨hF79, hk80, hk81, (by omega)⟩⟩
    · refine ra_iconst rfl ?_
      exact ra_ireturn rfl (ra_okB (Or.inl rfl)) ⟨⟨_, (Or.inl rfl), (x4oc_rd hz7p (by omega) rfl (fun x hx => x4part_1 (by omega) hx)), rfl⟩, ⟨hF11, hk12, hk13, (by omega)⟩⟩
  · refine ra_load rfl rfl rfl rfl ?_
    refine ra_iconst rfl ?_
    refine ra_cQP (s4_107 (by first | omega | (unfold ra_in at *; omega))) rfl (ct_107 rfl lk_6_50 (Or.inl rfl) sh_175 (Nat.le_of_ble_eq_true rfl)) (fun z84 s83 hz84 hz84p hs83 => ?_)
    obtain ⟨hf85, hc86, he87⟩ := hs83
    have hF88 := Fr_tr (lo := 14) (hi := 177) Fr_rf hf85 (by omega)
    have hk89 : s83 (40) = σ (40) := (hf85 (40) (by omega))
    have hk90 : s83 (176) = σ (176) := hc86
    have hk91 : s83 (E0) = σ (E0) := (hf85 (E0) (by omega))
    exact ra_ireturn rfl (ra_okB hz84) ⟨⟨_, hz84, (x4oc_f (c := 5) (a := ta) hz84p (x4part_0 (by omega)) (by omega) (by omega)), rfl⟩, ⟨hF88, hk89, hk90, (by omega)⟩⟩
end
