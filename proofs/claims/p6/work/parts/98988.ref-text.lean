/-! T4: what the reference's methods that read a text do (printed by wip/gen/r4.py) -/
section
variable {B : Nat → Int} {bn ps ta ti : Nat} {r : Nat → Int}
theorem l4_260_56 {n : Nat} {f : Nat → Int32} {d : Nat}  {σ : ra_V} (hpt : 0 ≤ ra_g σ 179 18 ∧ ra_g σ 179 18 ≤ ra_g σ 179 17 ∧ ra_g σ 179 17 ≤ ra_g σ 179 12 ∧ ra_g σ 179 12 ≤ 500 ∧ 0 ≤ ra_g σ 179 19 ∧ ra_g σ 179 19 ≤ 999) (hld : LD σ) (h50 : ra_g σ 180 5 = 0) (hB : x4TR σ B bn) (hN : x4RTK B bn σ (tx_a B bn 0)) (hZ : ra_g σ 180 1 = 0 ∧ ra_g σ 180 2 = 0 ∧ ra_g σ 180 3 = 1 ∧ ra_g σ 180 4 = 4 ∧ ra_g σ 180 5 = 0) (hZ9 : ra_g σ 179 15 = 0 ∧ ra_g σ 179 16 = -1 ∧ ra_g σ 179 21 = 0) : ∀ (nn : Nat) (s : ra_V) (hF : Fr (179) (189) σ s) (hk0 : s (181) = σ (181)) (hk1 : s (182) = σ (182)) (hk2 : s (183) = σ (183)) (hk3 : s (184) = σ (184)) (hov : ∀ a, a ≠ 15 → a ≠ 16 → a ≠ 17 → a ≠ 18 → a ≠ 19 → a ≠ 20 → a ≠ 21 → ra_g s 179 a = ra_g σ 179 a) (hls : LD s) (hps : 0 ≤ ra_g s 179 18 ∧ ra_g s 179 18 ≤ ra_g s 179 17 ∧ ra_g s 179 17 ≤ ra_g s 179 12 ∧ ra_g s 179 12 ≤ 500 ∧ 0 ≤ ra_g s 179 19 ∧ ra_g s 179 19 ≤ 999) (hmo : ra_g σ 179 17 ≤ ra_g s 179 17) (hBs : x4TR s B bn) (k7 : s (187) = σ (187)) (hLI : x4RLI B bn s) (hm : ((501 - ra_g s 179 17 : Int)).toNat < nn), ra_P (g_Gs n f) g_sh 0 (d + 7) g_m_X8_readText 56 [some (.index (179))] [] s (fun r9 s => (∃ z : Int, (z = 0 ∨ z = 1) ∧ (x4RP s z (tx_text B bn)) ∧ r9 = .inl (some (ra_I z))) ∧ Fr (179) (189) σ s ∧ s (181) = σ (181) ∧ s (182) = σ (182) ∧ s (183) = σ (183) ∧ s (184) = σ (184) ∧ (∀ a, a ≠ 15 → a ≠ 16 → a ≠ 17 → a ≠ 18 → a ≠ 19 → a ≠ 20 → a ≠ 21 → ra_g s 179 a = ra_g σ 179 a) ∧ LD s ∧ (0 ≤ ra_g s 179 18 ∧ ra_g s 179 18 ≤ ra_g s 179 17 ∧ ra_g s 179 17 ≤ ra_g s 179 12 ∧ ra_g s 179 12 ≤ 500 ∧ 0 ≤ ra_g s 179 19 ∧ ra_g s 179 19 ≤ 999) ∧ ra_g σ 179 17 ≤ ra_g s 179 17 ∧ s (187) = σ (187)) := by
  intro nn
  induction nn with
  | zero => intro s hF hk0 hk1 hk2 hk3 hov hls hps hmo hBs k7 hLI hm; exact absurd hm (Nat.not_lt_zero _)
  | succ nn ih =>
    intro s hF hk0 hk1 hk2 hk3 hov hls hps hmo hBs k7 hLI hm
    have hw0 := WF_a hls.1
    unfold WFa at hw0
    have hLI0 := hLI
    obtain ⟨ki, ri, ii, hi1, hi2, hi3, hi4⟩ := hLI0
    refine ra_load rfl rfl rfl rfl ?_
    refine ra_getI rfl lk_8_204 (Nat.zero_le _) sh_179 rfl ?_
    have hr56 : ra_in (ra_g s (179) 20) := (ra_in_g _ _ _)
    refine ra_ifeq rfl rfl hr56 (fun h57 => ?_) (fun h57 => ?_)
    · refine ra_iconst rfl ?_
      exact ra_ireturn rfl (ra_okB (Or.inr rfl)) ⟨⟨_, (Or.inr rfl), (x4rp_e hLI (by omega) rfl), rfl⟩, ⟨hF, hk0, hk1, hk2, hk3, (fun a h15 h16 h17 h18 h19 h20 h21 => (hov a h15 h16 h17 h18 h19 h20 h21)), hls, hps, (by omega), k7⟩⟩
    · refine ra_load rfl rfl rfl rfl ?_
      refine ra_cQPs (s4_258 hps hls hBs hi3 hi2) rfl (ct_258 rfl lk_8_285 (Or.inl rfl) sh_179 (Nat.le_of_ble_eq_true rfl)) (fun z59 s58 hz59 hz59p hs58 => ?_)
      have hz59o := hz59p.1
      have hz59q := hz59p.2
      obtain ⟨hf60, hc61, hc62, hc63, hc64, he65, he66, he67, he68, he69⟩ := hs58
      have hF70 := Fr_tr (lo := 179) (hi := 189) hF hf60 (by omega)
      have hk71 : s58 (181) = σ (181) := hc61.trans hk0
      have hk72 : s58 (182) = σ (182) := hc62.trans hk1
      have hk73 : s58 (183) = σ (183) := hc63.trans hk2
      have hk74 : s58 (184) = σ (184) := hc64.trans hk3
      refine ra_ifeq rfl rfl (ra_in01 hz59) (fun h75 => ?_) (fun h75 => ?_)
      · refine ra_iconst rfl ?_
        exact ra_ireturn rfl (ra_okB (Or.inl rfl)) ⟨⟨_, (Or.inl rfl), (x4rp_n hi1 hi4 (by omega) hi3 (by omega) hz59q (by omega) rfl), rfl⟩, ⟨hF70, hk71, hk72, hk73, hk74, (fun a h15 h16 h17 h18 h19 h20 h21 => ((he65 a h15 h16 h17 h18 h19 h20 h21).trans (hov a h15 h16 h17 h18 h19 h20 h21))), he66, he67, (by have m_s58 := he68; omega), (he69.trans k7)⟩⟩
      · obtain ⟨-, r2, e2, hc1, hc2, hc3, hc4⟩ := hz59q.resolve_right (fun q => by omega)
        refine ra_load rfl rfl rfl rfl ?_
        refine ra_cQPs (s4_259 he67 (x4TR_k (he65 12 (by decide) (by decide) (by decide) (by decide) (by decide) (by decide) (by decide)) he69 hBs) (hc3) hc2.2.2.2.1.1) rfl (ct_259 rfl lk_8_282 (Or.inl rfl) sh_179 (Nat.le_of_ble_eq_true rfl)) (fun z77 s76 hz77 hz77p hs76 => ?_)
        have hz77o := hz77p.1
        have hz77q := hz77p.2
        obtain ⟨hf78, he79, he80, he81⟩ := hs76
        have hF82 := Fr_tr (lo := 179) (hi := 189) hF70 hf78 (by omega)
        have hk83 : s76 (181) = σ (181) := (hf78 (181) (by omega)).trans hk71
        have hk84 : s76 (182) = σ (182) := (hf78 (182) (by omega)).trans hk72
        have hk85 : s76 (183) = σ (183) := (hf78 (183) (by omega)).trans hk73
        have hk86 : s76 (184) = σ (184) := (hf78 (184) (by omega)).trans hk74
        refine ra_ifne rfl rfl (ra_in01 hz77) (fun h87 => ?_) (fun h87 => ?_)
        · exact ra_weak (by repeat' constructor) (ih s76 hF82 hk83 hk84 hk85 hk86 (fun a h15 h16 h17 h18 h19 h20 h21 => ((he79 a h15 h16 h17 h18 h19 h20).trans ((he65 a h15 h16 h17 h18 h19 h20 h21).trans (hov a h15 h16 h17 h18 h19 h20 h21)))) (LD_k (hf78 180 (by omega)) he66) he80 (by have m_s58 := he68; have m_s76 := he81; omega) (x4TR_k ((he79 12 (by decide) (by decide) (by decide) (by decide) (by decide) (by decide)).trans (he65 12 (by decide) (by decide) (by decide) (by decide) (by decide) (by decide) (by decide))) ((hf78 (187) (by omega)).trans he69) hBs) (((hf78 (187) (by omega)).trans he69).trans k7) (x4rli_s hi1 hi4 (by omega) hi3 (by omega) hc1 hc2 hz77q (by omega) (hf78 180 (by omega)) (he79 21 (by decide) (by decide) (by decide) (by decide) (by decide) (by decide)) (by have m_s58 := he68; have m_s76 := he81; have m_q := hz59o; have m_p := hz77o; omega)) (by first | omega | (unfold ra_in at *; omega)))
        · refine ra_iconst rfl ?_
          exact ra_ireturn rfl (ra_okB (Or.inl rfl)) ⟨⟨_, (Or.inl rfl), (x4rp_n2 hi1 hi4 (by omega) hi3 (by omega) hc1 hz77q (by omega) rfl), rfl⟩, ⟨hF82, hk83, hk84, hk85, hk86, (fun a h15 h16 h17 h18 h19 h20 h21 => ((he79 a h15 h16 h17 h18 h19 h20).trans ((he65 a h15 h16 h17 h18 h19 h20 h21).trans (hov a h15 h16 h17 h18 h19 h20 h21)))), (LD_k (hf78 180 (by omega)) he66), he80, (by have m_s58 := he68; have m_s76 := he81; omega), (((hf78 (187) (by omega)).trans he69).trans k7)⟩⟩
theorem s4_260 {n : Nat} {f : Nat → Int32} {d : Nat}  {σ : ra_V} (hpt : 0 ≤ ra_g σ 179 18 ∧ ra_g σ 179 18 ≤ ra_g σ 179 17 ∧ ra_g σ 179 17 ≤ ra_g σ 179 12 ∧ ra_g σ 179 12 ≤ 500 ∧ 0 ≤ ra_g σ 179 19 ∧ ra_g σ 179 19 ≤ 999) (hld : LD σ) (h50 : ra_g σ 180 5 = 0) (hB : x4TR σ B bn) (hN : x4RTK B bn σ (tx_a B bn 0)) (hZ : ra_g σ 180 1 = 0 ∧ ra_g σ 180 2 = 0 ∧ ra_g σ 180 3 = 1 ∧ ra_g σ 180 4 = 4 ∧ ra_g σ 180 5 = 0) (hZ9 : ra_g σ 179 15 = 0 ∧ ra_g σ 179 16 = -1 ∧ ra_g σ 179 21 = 0) : ra_C (g_Gs n f) g_sh 0 (d + 8) 260 [.index (179)] σ (fun r9 s => (∃ z : Int, (z = 0 ∨ z = 1) ∧ (x4RP s z (tx_text B bn)) ∧ r9 = .inl (some (ra_I z))) ∧ Fr (179) (189) σ s ∧ s (181) = σ (181) ∧ s (182) = σ (182) ∧ s (183) = σ (183) ∧ s (184) = σ (184) ∧ (∀ a, a ≠ 15 → a ≠ 16 → a ≠ 17 → a ≠ 18 → a ≠ 19 → a ≠ 20 → a ≠ 21 → ra_g s 179 a = ra_g σ 179 a) ∧ LD s ∧ (0 ≤ ra_g s 179 18 ∧ ra_g s 179 18 ≤ ra_g s 179 17 ∧ ra_g s 179 17 ≤ ra_g s 179 12 ∧ ra_g s 179 12 ≤ 500 ∧ 0 ≤ ra_g s 179 19 ∧ ra_g s 179 19 ≤ 999) ∧ ra_g σ 179 17 ≤ ra_g s 179 17 ∧ s (187) = σ (187)) := by
  refine ra_enter (nn := 0) mt_260 rfl (Nat.le_of_ble_eq_true rfl) rfl (fun h => absurd h (by decide +kernel)) ?_
  have hw0 := WF_a hld.1
  unfold WFa at hw0
  have hl5 := hld.2.2.1
  have hZ0 := hZ
  obtain ⟨z1, z2, z3, z4, z5⟩ := hZ0
  have hZ90 := hZ9
  obtain ⟨z15, z16, z21⟩ := hZ90
  have hN0 := hN
  obtain ⟨n1, n2, n3, -, n5, n6, n7⟩ := hN0
  refine ra_load rfl rfl rfl rfl ?_
  refine ra_ldcwS rfl lk_8_280 ?_
  refine ra_cQPp (s4_252 lk_8_280 (by decide) hpt hB hN) rfl (ct_252 rfl lk_8_256 (Or.inl rfl) sh_179 (Nat.le_of_ble_eq_true rfl)) (fun z2 hz2 hz2p => ?_)
  have w1 : x4IFW z2 (tx_isw B bn (tx_a B bn 0) ['d', 'i', 's', 'k'] = true) := by rw [show "disk".toList = ['d', 'i', 's', 'k'] by decide] at hz2p; exact hz2p
  clear hz2p
  refine ra_ifne rfl rfl (ra_in01 hz2) (fun h3 => ?_) (fun h3 => ?_)
  · refine ra_load rfl rfl rfl rfl ?_
    refine ra_cV (s4_249 (by have q := hpt; omega) hB (show ra_g σ 179 17 = ((tx_e B bn (tx_a B bn 0) : Nat) : Int) from (rfl).trans hN.2.1) (by omega)) rfl (ct_249 rfl lk_8_240 (Or.inl rfl) sh_179 (Nat.le_of_ble_eq_true rfl)) (fun s4 hs4 => ?_)
    obtain ⟨hf5, he6, he7, he8, he9⟩ := hs4
    have hF10 := Fr_tr (lo := 179) (hi := 189) Fr_rf hf5 (by omega)
    have hk11 : s4 (180) = σ (180) := (hf5 (180) (by omega))
    have hk12 : s4 (181) = σ (181) := (hf5 (181) (by omega))
    have hk13 : s4 (182) = σ (182) := (hf5 (182) (by omega))
    have hk14 : s4 (183) = σ (183) := (hf5 (183) (by omega))
    have hk15 : s4 (184) = σ (184) := (hf5 (184) (by omega))
    have hk16 : s4 (187) = σ (187) := (hf5 (187) (by omega))
    refine ra_load rfl rfl rfl rfl ?_
    refine ra_iconst rfl ?_
    refine ra_bipush rfl (by decide) ?_
    refine ra_sipush rfl (by decide) ?_
    refine ra_cQPs (s4_254 (by first | omega | (unfold ra_in at *; omega)) (by first | omega | (unfold ra_in at *; omega)) (by first | omega | (unfold ra_in at *; omega)) he7 (by first | assumption | rfl | omega) (x4TR_k (he6 12 (by decide) (by decide) (by decide) (by decide)) (hf5 (187) (by omega)) hB) he9 (((he6 15 (by decide) (by decide) (by decide) (by decide))).trans z15)) rfl (ct_254 rfl lk_8_246 (Or.inl rfl) sh_179 (Nat.le_of_ble_eq_true rfl)) (fun z18 s17 hz18 hz18p hs17 => ?_)
    have hz18o := hz18p.1
    have hz18q := hz18p.2
    obtain ⟨hf19, hc20, hc21, hc22, hc23, hc24, he25, he26, he27, he28, he29⟩ := hs17
    have hF30 := Fr_tr (lo := 179) (hi := 189) hF10 hf19 (by omega)
    have hk31 : s17 (180) = σ (180) := hc20.trans hk11
    have hk32 : s17 (181) = σ (181) := hc21.trans hk12
    have hk33 : s17 (182) = σ (182) := hc22.trans hk13
    have hk34 : s17 (183) = σ (183) := hc23.trans hk14
    have hk35 : s17 (184) = σ (184) := hc24.trans hk15
    refine ra_ifne rfl rfl (ra_in01 hz18) (fun h36 => ?_) (fun h36 => ?_)
    · rw [toN0] at hz18q
      obtain ⟨-, hr1, hK1, hl1, hu1, he1, he1b⟩ := hz18q.resolve_right (fun q => by omega)
      have ht := hz18o (by omega)
      rw [toN0] at ht
      have hld1 := (LD_k hc20 (LD_k (hf5 180 (by omega)) hld))
      have h51 : ra_g s17 180 5 = ra_g σ 180 5 := ra_gk hk31
      refine ra_load rfl rfl rfl rfl ?_
      refine ra_getR rfl lk_8_7 (Nat.zero_le _) sh_179 rfl ?_
      refine ra_iconst rfl ?_
      refine ra_load rfl rfl rfl rfl ?_
      refine ra_getR rfl lk_8_38 (Nat.zero_le _) sh_179 rfl ?_
      refine ra_iconst rfl ?_
      refine ra_ialoadJ (j := 0) rfl sh_188 rfl (by decide) rfl (by decide) ?_
      have hr37 : ra_in (ra_g s17 (188) 0) := (ra_in_g _ _ _)
      refine ra_iastoreJ (j := 0) rfl sh_180 rfl (by decide) rfl (by decide) ?_
      refine ra_newR hr37 (fun s38 hs38 hs38v hs38o => ?_)
      have hF39 := Fr_tr (lo := 179) (hi := 189) hF30 hs38 (by omega)
      have hk40 : s38 (181) = σ (181) := (hs38 (181) (by omega)).trans hk32
      have hk41 : s38 (182) = σ (182) := (hs38 (182) (by omega)).trans hk33
      have hk42 : s38 (183) = σ (183) := (hs38 (183) (by omega)).trans hk34
      have hk43 : s38 (184) = σ (184) := (hs38 (184) (by omega)).trans hk35
      have hR4 : x4RR (tx_r0 (ra_g s17 188 0)) s38 := x4RR_0 ⟨hs38v, ((hs38o 1 (by decide)).trans (ra_gk (hc20.trans (hf5 (180) (by omega))))).trans (by omega), ((hs38o 2 (by decide)).trans (ra_gk (hc20.trans (hf5 (180) (by omega))))).trans (by omega), ((hs38o 3 (by decide)).trans (ra_gk (hc20.trans (hf5 (180) (by omega))))).trans (by omega), ((hs38o 4 (by decide)).trans (ra_gk (hc20.trans (hf5 (180) (by omega))))).trans (by omega), ((hs38o 5 (by decide)).trans (ra_gk (hc20.trans (hf5 (180) (by omega))))).trans (by omega)⟩ ⟨by have a : ra_g s38 179 15 = ra_g s17 179 15 := (ra_gk (hs38 179 (by omega))); omega, by have a : ra_g s38 179 16 = ra_g s17 179 16 := (ra_gk (hs38 179 (by omega))); have b : ra_g s4 179 16 = ra_g σ 179 16 := (he6 16 (by decide) (by decide) (by decide) (by decide)); omega, (((ra_gk (hs38 179 (by omega))).trans ((he25 21 (by decide) (by decide) (by decide) (by decide) (by decide) (by decide)).trans (he6 21 (by decide) (by decide) (by decide) (by decide))))).trans z21⟩
      refine ra_load rfl rfl rfl rfl ?_
      refine ra_cQPs (s4_259 (pt_e (ra_gk (hs38 179 (by omega))) (ra_gk (hs38 179 (by omega))) (ra_gk (hs38 179 (by omega))) (ra_gk (hs38 179 (by omega))) he27) (x4TR_k ((ra_gk (hs38 179 (by omega))).trans ((he25 12 (by decide) (by decide) (by decide) (by decide) (by decide) (by decide)).trans (he6 12 (by decide) (by decide) (by decide) (by decide)))) ((hs38 (187) (by omega)).trans (he29.trans (hf5 (187) (by omega)))) hB) (x4RTK_k (ra_gk (hs38 179 (by omega))) (ra_gk (hs38 179 (by omega))) (ra_gk (hs38 179 (by omega))) (ra_gk (hs38 179 (by omega))) hK1) hR4.2.2.2.1.1) rfl (ct_259 rfl lk_8_282 (Or.inl rfl) sh_179 (Nat.le_of_ble_eq_true rfl)) (fun z45 s44 hz45 hz45p hs44 => ?_)
      have hz45o := hz45p.1
      have hz45q := hz45p.2
      obtain ⟨hf46, he47, he48, he49⟩ := hs44
      have hF50 := Fr_tr (lo := 179) (hi := 189) hF39 hf46 (by omega)
      have hk51 : s44 (181) = σ (181) := (hf46 (181) (by omega)).trans hk40
      have hk52 : s44 (182) = σ (182) := (hf46 (182) (by omega)).trans hk41
      have hk53 : s44 (183) = σ (183) := (hf46 (183) (by omega)).trans hk42
      have hk54 : s44 (184) = σ (184) := (hf46 (184) (by omega)).trans hk43
      refine ra_ifne rfl rfl (ra_in01 hz45) (fun h55 => ?_) (fun h55 => ?_)
      · exact ra_weak (by repeat' constructor) (l4_260_56 hpt hld h50 hB hN hZ hZ9 _ s44 hF50 hk51 hk52 hk53 hk54 (fun a h15 h16 h17 h18 h19 h20 h21 => ((he47 a h15 h16 h17 h18 h19 h20).trans ((ra_gk (hs38 179 (by omega))).trans ((he25 a h15 h16 h17 h18 h19 h20).trans (he6 a h17 h18 h19 h20))))) (LD_k (hf46 180 (by omega)) (LD_set (j := 0) hld1 (by omega) hs38o (fun q => by have t := hs38v; omega) (fun q => by omega) (fun q => by omega) (fun q => by omega) (by omega))) he48 (by have m_s4 := he8.1; have m_s17 := he28; have m_s38 : ra_g s38 179 17 = ra_g s17 179 17 := (ra_gk (hs38 179 (by omega))); have k_s38 : ra_g s38 179 20 = ra_g s17 179 20 := (ra_gk (hs38 179 (by omega))); have m_s44 := he49; omega) (x4TR_k ((he47 12 (by decide) (by decide) (by decide) (by decide) (by decide) (by decide)).trans ((ra_gk (hs38 179 (by omega))).trans ((he25 12 (by decide) (by decide) (by decide) (by decide) (by decide) (by decide)).trans (he6 12 (by decide) (by decide) (by decide) (by decide))))) ((hf46 (187) (by omega)).trans ((hs38 (187) (by omega)).trans (he29.trans (hf5 (187) (by omega))))) hB) ((hf46 (187) (by omega)).trans ((hs38 (187) (by omega)).trans (he29.trans (hf5 (187) (by omega))))) (x4rli_0 (Iff.mp w1 (by omega)) hr1 hR4 hz45q (by omega) (hf46 180 (by omega)) (he47 21 (by decide) (by decide) (by decide) (by decide) (by decide) (by decide)) (by have a := x4isw_iff.mp (Iff.mp w1 (by omega)); have a2 : tx_e B bn (tx_a B bn 0) - tx_a B bn 0 = 4 := a.2.1; have m_s4 := he8.1; have m_s17 := he28; have m_s38 : ra_g s38 179 17 = ra_g s17 179 17 := (ra_gk (hs38 179 (by omega))); have k_s38 : ra_g s38 179 20 = ra_g s17 179 20 := (ra_gk (hs38 179 (by omega))); have m_s44 := he49; omega)) (Nat.lt_succ_self _))
      · refine ra_iconst rfl ?_
        exact ra_ireturn rfl (ra_okB (Or.inl rfl)) ⟨⟨_, (Or.inl rfl), (x4rp_s hz45q (by omega) rfl (fun x hx => x4text_3 (Iff.mp w1 (by omega)) hr1 hx)), rfl⟩, ⟨hF50, hk51, hk52, hk53, hk54, (fun a h15 h16 h17 h18 h19 h20 h21 => ((he47 a h15 h16 h17 h18 h19 h20).trans ((ra_gk (hs38 179 (by omega))).trans ((he25 a h15 h16 h17 h18 h19 h20).trans (he6 a h17 h18 h19 h20))))), (LD_k (hf46 180 (by omega)) (LD_set (j := 0) hld1 (by omega) hs38o (fun q => by have t := hs38v; omega) (fun q => by omega) (fun q => by omega) (fun q => by omega) (by omega))), he48, (by have m_s4 := he8.1; have m_s17 := he28; have m_s38 : ra_g s38 179 17 = ra_g s17 179 17 := (ra_gk (hs38 179 (by omega))); have k_s38 : ra_g s38 179 20 = ra_g s17 179 20 := (ra_gk (hs38 179 (by omega))); have m_s44 := he49; omega), ((hf46 (187) (by omega)).trans ((hs38 (187) (by omega)).trans (he29.trans (hf5 (187) (by omega)))))⟩⟩
    · refine ra_iconst rfl ?_
      exact ra_ireturn rfl (ra_okB (Or.inl rfl)) ⟨⟨_, (Or.inl rfl), (x4rp_t hz18q (by omega) rfl (fun x hx => x4text_2 (Iff.mp w1 (by omega)) hx)), rfl⟩, ⟨hF30, hk32, hk33, hk34, hk35, (fun a h15 h16 h17 h18 h19 h20 h21 => ((he25 a h15 h16 h17 h18 h19 h20).trans (he6 a h17 h18 h19 h20))), (LD_k hc20 (LD_k (hf5 180 (by omega)) hld)), he27, (by have m_s4 := he8.1; have m_s17 := he28; omega), (he29.trans (hf5 (187) (by omega)))⟩⟩
  · refine ra_load rfl rfl rfl rfl ?_
    refine ra_iconst rfl ?_
    refine ra_cQP (s4_251 (by first | omega | (unfold ra_in at *; omega))) rfl (ct_251 rfl lk_8_233 (Or.inl rfl) sh_179 (Nat.le_of_ble_eq_true rfl)) (fun z89 s88 hz89 hz89p hs88 => ?_)
    obtain ⟨hf90, he91, he92⟩ := hs88
    have hF93 := Fr_tr (lo := 179) (hi := 189) Fr_rf hf90 (by omega)
    have hk94 : s88 (180) = σ (180) := (hf90 (180) (by omega))
    have hk95 : s88 (181) = σ (181) := (hf90 (181) (by omega))
    have hk96 : s88 (182) = σ (182) := (hf90 (182) (by omega))
    have hk97 : s88 (183) = σ (183) := (hf90 (183) (by omega))
    have hk98 : s88 (184) = σ (184) := (hf90 (184) (by omega))
    have hk99 : s88 (187) = σ (187) := (hf90 (187) (by omega))
    exact ra_ireturn rfl (ra_okB hz89) ⟨⟨_, hz89, (x4rp_f (c := 1) (a := tx_a B bn 0) hz89p (x4text_1 (fun q => absurd (Iff.mpr w1 q) (by omega))) (by have q := he92 z15; omega) (by have q := he92 z15; omega)), rfl⟩, ⟨hF93, hk95, hk96, hk97, hk98, (fun a h15 h16 h17 h18 h19 h20 h21 => (he91 a h15 h16)), (LD_k (hf90 180 (by omega)) hld), (pt_e (he91 12 (by decide) (by decide)) (he91 17 (by decide) (by decide)) (he91 18 (by decide) (by decide)) (he91 19 (by decide) (by decide)) hpt), (by have m_s88 : ra_g s88 179 17 = ra_g σ 179 17 := (he91 17 (by decide) (by decide)); have k_s88 : ra_g s88 179 20 = ra_g σ 179 20 := (he91 20 (by decide) (by decide)); omega), (hf90 (187) (by omega))⟩⟩
end
