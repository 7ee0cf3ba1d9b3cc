/-! T5: the reference's loadDisk (printed by wip/gen/r10.py) -/
section
variable {B : Nat → Int} {bn ps ta ti : Nat} {r : Nat → Int}
theorem s9_259 {n : Nat} {f : Nat → Int32} {d : Nat}  {σ : ra_V} (hpt : 0 ≤ ra_g σ 179 18 ∧ ra_g σ 179 18 ≤ ra_g σ 179 17 ∧ ra_g σ 179 17 ≤ ra_g σ 179 12 ∧ ra_g σ 179 12 ≤ 500 ∧ 0 ≤ ra_g σ 179 19 ∧ ra_g σ 179 19 ≤ 999) (hld : LD σ) (hB : x4TR σ B bn) (hN : x4RTK B bn σ ta) (hR : x5R6 r σ) : ra_C (g_Gs n f) g_sh 0 (d + 7) 259 [.index (179)] σ (fun r9 s => (∃ z : Int, (z = 0 ∨ z = 1) ∧ ((z = 1 → ra_g s 179 20 = 3 → ra_g σ 179 17 < ra_g s 179 17) ∧ x5RO6 B bn s z (tx_stmt B bn r ta)) ∧ r9 = .inl (some (ra_I z))) ∧ Fr (179) (189) σ s ∧ s (181) = σ (181) ∧ s (182) = σ (182) ∧ s (183) = σ (183) ∧ s (184) = σ (184) ∧ (∀ a, a ≠ 15 → a ≠ 16 → a ≠ 17 → a ≠ 18 → a ≠ 19 → a ≠ 20 → a ≠ 21 → ra_g s 179 a = ra_g σ 179 a) ∧ LD s ∧ (0 ≤ ra_g s 179 18 ∧ ra_g s 179 18 ≤ ra_g s 179 17 ∧ ra_g s 179 17 ≤ ra_g s 179 12 ∧ ra_g s 179 12 ≤ 500 ∧ 0 ≤ ra_g s 179 19 ∧ ra_g s 179 19 ≤ 999) ∧ ra_g σ 179 17 ≤ ra_g s 179 17 ∧ s (187) = σ (187)) := by
  refine ra_enter (nn := 0) mt_259 rfl (Nat.le_of_ble_eq_true rfl) rfl (fun h => absurd h (by decide +kernel)) ?_
  have hw0 := WF_a hld.1
  unfold WFa at hw0
  have hl5 := hld.2.2.1
  have hR0 := hR
  obtain ⟨⟨⟨q0, q1, q2, q3, q4, q5⟩, q21, -, ⟨q15, q16⟩, qp⟩, qx⟩ := hR0
  have hN0 := hN
  obtain ⟨n1, n2, n3, -, n5, n6, n7⟩ := hN0
  refine ra_load rfl rfl rfl rfl ?_
  refine ra_ldcS rfl lk_8_254 ?_
  refine ra_cQPp (s4_253 lk_8_254 (by decide) hpt hB hN) rfl (ct_253 rfl lk_8_256 (Or.inl rfl) sh_179 (Nat.le_of_ble_eq_true rfl)) (fun z2 hz2 hz2p => ?_)
  have w1 : x4IFW z2 (tx_isw B bn ta ['h', 'e', 'a', 'd'] = true) := by rw [show "head".toList = ['h', 'e', 'a', 'd'] by decide] at hz2p; exact hz2p
  clear hz2p
  refine ra_ifeq rfl rfl (ra_in01 hz2) (fun h3 => ?_) (fun h3 => ?_)
  · refine ra_load rfl rfl rfl rfl ?_
    refine ra_ldcwS rfl lk_8_264 ?_
    refine ra_cQPp (s4_253 lk_8_264 (by decide) hpt hB hN) rfl (ct_253 rfl lk_8_256 (Or.inl rfl) sh_179 (Nat.le_of_ble_eq_true rfl)) (fun z5 hz5 hz5p => ?_)
    have w2 : x4IFW z5 (tx_isw B bn ta ['t', 'a', 'i', 'l'] = true) := by rw [show "tail".toList = ['t', 'a', 'i', 'l'] by decide] at hz5p; exact hz5p
    clear hz5p
    refine ra_ifeq rfl rfl (ra_in01 hz5) (fun h6 => ?_) (fun h6 => ?_)
    · refine ra_load rfl rfl rfl rfl ?_
      refine ra_ldcwS rfl lk_8_266 ?_
      refine ra_cQPp (s4_253 lk_8_266 (by decide) hpt hB hN) rfl (ct_253 rfl lk_8_256 (Or.inl rfl) sh_179 (Nat.le_of_ble_eq_true rfl)) (fun z8 hz8 hz8p => ?_)
      have w3 : x4IFW z8 (tx_isw B bn ta ['a', 'l', 'i', 'g', 'n'] = true) := by rw [show "align".toList = ['a', 'l', 'i', 'g', 'n'] by decide] at hz8p; exact hz8p
      clear hz8p
      refine ra_ifeq rfl rfl (ra_in01 hz8) (fun h9 => ?_) (fun h9 => ?_)
      · refine ra_load rfl rfl rfl rfl ?_
        refine ra_ldcwS rfl lk_8_268 ?_
        refine ra_cQPp (s4_253 lk_8_268 (by decide) hpt hB hN) rfl (ct_253 rfl lk_8_256 (Or.inl rfl) sh_179 (Nat.le_of_ble_eq_true rfl)) (fun z11 hz11 hz11p => ?_)
        have w4 : x4IFW z11 (tx_isw B bn ta ['c', 'h', 'u', 'n', 'k'] = true) := by rw [show "chunk".toList = ['c', 'h', 'u', 'n', 'k'] by decide] at hz11p; exact hz11p
        clear hz11p
        refine ra_ifeq rfl rfl (ra_in01 hz11) (fun h12 => ?_) (fun h12 => ?_)
        · refine ra_load rfl rfl rfl rfl ?_
          refine ra_ldcwS rfl lk_8_270 ?_
          refine ra_cQPp (s4_253 lk_8_270 (by decide) hpt hB hN) rfl (ct_253 rfl lk_8_256 (Or.inl rfl) sh_179 (Nat.le_of_ble_eq_true rfl)) (fun z14 hz14 hz14p => ?_)
          have w5 : x4IFW z14 (tx_isw B bn ta ['p', 'a', 'r', 't'] = true) := by rw [show "part".toList = ['p', 'a', 'r', 't'] by decide] at hz14p; exact hz14p
          clear hz14p
          refine ra_ifeq rfl rfl (ra_in01 hz14) (fun h15 => ?_) (fun h15 => ?_)
          · refine ra_load rfl rfl rfl rfl ?_
            refine ra_ldcwS rfl lk_8_275 ?_
            refine ra_cQPp (s4_253 lk_8_275 (by decide) hpt hB hN) rfl (ct_253 rfl lk_8_256 (Or.inl rfl) sh_179 (Nat.le_of_ble_eq_true rfl)) (fun z17 hz17 hz17p => ?_)
            have w6 : x4IFW z17 (tx_isw B bn ta ['l', 'o', 'c', 'k'] = true) := by rw [show "lock".toList = ['l', 'o', 'c', 'k'] by decide] at hz17p; exact hz17p
            clear hz17p
            refine ra_ifeq rfl rfl (ra_in01 hz17) (fun h18 => ?_) (fun h18 => ?_)
            · refine ra_load rfl rfl rfl rfl ?_
              refine ra_iconst rfl ?_
              refine ra_cQP (s4_252 (by first | omega | (unfold ra_in at *; omega))) rfl (ct_252 rfl lk_8_233 (Or.inl rfl) sh_179 (Nat.le_of_ble_eq_true rfl)) (fun z20 s19 hz20 hz20p hs19 => ?_)
              obtain ⟨hf21, he22, he23⟩ := hs19
              have hF24 := Fr_tr (lo := 179) (hi := 189) Fr_rf hf21 (by omega)
              have hk25 : s19 (180) = σ (180) := (hf21 (180) (by omega))
              have hk26 : s19 (181) = σ (181) := (hf21 (181) (by omega))
              have hk27 : s19 (182) = σ (182) := (hf21 (182) (by omega))
              have hk28 : s19 (183) = σ (183) := (hf21 (183) (by omega))
              have hk29 : s19 (184) = σ (184) := (hf21 (184) (by omega))
              have hk30 : s19 (187) = σ (187) := (hf21 (187) (by omega))
              exact ra_ireturn rfl (ra_okB hz20) ⟨⟨_, hz20, ⟨(fun q => absurd q (by omega)), (x5ro_f6 (c := 1) (a := ta) hz20p (x4stm_no (fun q => absurd (Iff.mpr w1 q) (by omega)) (fun q => absurd (Iff.mpr w2 q) (by omega)) (fun q => absurd (Iff.mpr w3 q) (by omega)) (fun q => absurd (Iff.mpr w4 q) (by omega)) (fun q => absurd (Iff.mpr w5 q) (by omega)) (fun q => absurd (Iff.mpr w6 q) (by omega))) (by have q := he23 q15; omega) (by have q := he23 q15; omega))⟩, rfl⟩, ⟨hF24, hk26, hk27, hk28, hk29, (fun a h15 h16 h17 h18 h19 h20 h21 => (he22 a h15 h16)), (LD_k (hf21 180 (by omega)) hld), (pt_e (he22 12 (by decide) (by decide)) (he22 17 (by decide) (by decide)) (he22 18 (by decide) (by decide)) (he22 19 (by decide) (by decide)) hpt), (by have m_s19 : ra_g s19 179 17 = ra_g σ 179 17 := (he22 17 (by decide) (by decide)); have k_s19 : ra_g s19 179 20 = ra_g σ 179 20 := (he22 20 (by decide) (by decide)); omega), (hf21 (187) (by omega))⟩⟩
            · refine ra_load rfl rfl rfl rfl ?_
              refine ra_cQPs (s9_258 hpt hld hB hN hR) rfl (ct_258 rfl lk_8_277 (Or.inl rfl) sh_179 (Nat.le_of_ble_eq_true rfl)) (fun z32 s31 hz32 hz32p hs31 => ?_)
              have hz32o := hz32p.1
              have hz32q := hz32p.2
              obtain ⟨hf33, hc34, hc35, hc36, hc37, he38, he39, he40, he41, he42⟩ := hs31
              have hF43 := Fr_tr (lo := 179) (hi := 189) Fr_rf hf33 (by omega)
              have hk44 : s31 (181) = σ (181) := hc34
              have hk45 : s31 (182) = σ (182) := hc35
              have hk46 : s31 (183) = σ (183) := hc36
              have hk47 : s31 (184) = σ (184) := hc37
              refine ra_goto rfl rfl ?_
              exact ra_ireturn rfl (ra_okB hz32) ⟨⟨_, hz32, ⟨hz32o, (by rw [x4stm_lock (Iff.mp w6 (by omega))]; exact hz32q)⟩, rfl⟩, ⟨hF43, hk44, hk45, hk46, hk47, (fun a h15 h16 h17 h18 h19 h20 h21 => (he38 a h15 h16 h17 h18 h19 h20 h21)), he39, he40, (by have m_s31 := he41; omega), he42⟩⟩
          · refine ra_load rfl rfl rfl rfl ?_
            refine ra_cQPs (s9_257 hpt hld hB hN hR) rfl (ct_257 rfl lk_8_272 (Or.inl rfl) sh_179 (Nat.le_of_ble_eq_true rfl)) (fun z49 s48 hz49 hz49p hs48 => ?_)
            have hz49o := hz49p.1
            have hz49q := hz49p.2
            obtain ⟨hf50, hc51, hc52, hc53, hc54, he55, he56, he57, he58, he59⟩ := hs48
            have hF60 := Fr_tr (lo := 179) (hi := 189) Fr_rf hf50 (by omega)
            have hk61 : s48 (181) = σ (181) := hc51
            have hk62 : s48 (182) = σ (182) := hc52
            have hk63 : s48 (183) = σ (183) := hc53
            have hk64 : s48 (184) = σ (184) := hc54
            exact ra_ireturn rfl (ra_okB hz49) ⟨⟨_, hz49, ⟨hz49o, (by rw [x4stm_part (Iff.mp w5 (by omega))]; exact hz49q)⟩, rfl⟩, ⟨hF60, hk61, hk62, hk63, hk64, (fun a h15 h16 h17 h18 h19 h20 h21 => (he55 a h15 h16 h17 h18 h19 h20 h21)), he56, he57, (by have m_s48 := he58; omega), he59⟩⟩
        · refine ra_load rfl rfl rfl rfl ?_
          refine ra_iconst rfl ?_
          refine ra_bipush rfl (by decide) ?_
          refine ra_iconst rfl ?_
          refine ra_bipush rfl (by decide) ?_
          refine ra_cQPs (s9_256 (by first | omega | (unfold ra_in at *; omega)) (by first | omega | (unfold ra_in at *; omega)) (by first | omega | (unfold ra_in at *; omega)) (by first | omega | (unfold ra_in at *; omega)) hpt hld (by omega) hB hN hR) rfl (ct_256 rfl lk_8_260 (Or.inl rfl) sh_179 (Nat.le_of_ble_eq_true rfl)) (fun z66 s65 hz66 hz66p hs65 => ?_)
          have hz66o := hz66p.1
          have hz66q := hz66p.2
          obtain ⟨hf67, hc68, hc69, hc70, hc71, he72, he73, he74, he75, he76⟩ := hs65
          have hF77 := Fr_tr (lo := 179) (hi := 189) Fr_rf hf67 (by omega)
          have hk78 : s65 (181) = σ (181) := hc68
          have hk79 : s65 (182) = σ (182) := hc69
          have hk80 : s65 (183) = σ (183) := hc70
          have hk81 : s65 (184) = σ (184) := hc71
          exact ra_ireturn rfl (ra_okB hz66) ⟨⟨_, hz66, ⟨hz66o, (by rw [x4stm_chunk (Iff.mp w4 (by omega))]; exact hz66q)⟩, rfl⟩, ⟨hF77, hk78, hk79, hk80, hk81, (fun a h15 h16 h17 h18 h19 h20 h21 => (he72 a h15 h16 h17 h18 h19 h20 h21)), he73, he74, (by have m_s65 := he75; omega), he76⟩⟩
      · refine ra_load rfl rfl rfl rfl ?_
        refine ra_iconst rfl ?_
        refine ra_iconst rfl ?_
        refine ra_iconst rfl ?_
        refine ra_bipush rfl (by decide) ?_
        refine ra_cQPs (s9_256 (by first | omega | (unfold ra_in at *; omega)) (by first | omega | (unfold ra_in at *; omega)) (by first | omega | (unfold ra_in at *; omega)) (by first | omega | (unfold ra_in at *; omega)) hpt hld (by omega) hB hN hR) rfl (ct_256 rfl lk_8_260 (Or.inl rfl) sh_179 (Nat.le_of_ble_eq_true rfl)) (fun z83 s82 hz83 hz83p hs82 => ?_)
        have hz83o := hz83p.1
        have hz83q := hz83p.2
        obtain ⟨hf84, hc85, hc86, hc87, hc88, he89, he90, he91, he92, he93⟩ := hs82
        have hF94 := Fr_tr (lo := 179) (hi := 189) Fr_rf hf84 (by omega)
        have hk95 : s82 (181) = σ (181) := hc85
        have hk96 : s82 (182) = σ (182) := hc86
        have hk97 : s82 (183) = σ (183) := hc87
        have hk98 : s82 (184) = σ (184) := hc88
        exact ra_ireturn rfl (ra_okB hz83) ⟨⟨_, hz83, ⟨hz83o, (by rw [x4stm_align (Iff.mp w3 (by omega))]; exact hz83q)⟩, rfl⟩, ⟨hF94, hk95, hk96, hk97, hk98, (fun a h15 h16 h17 h18 h19 h20 h21 => (he89 a h15 h16 h17 h18 h19 h20 h21)), he90, he91, (by have m_s82 := he92; omega), he93⟩⟩
    · refine ra_load rfl rfl rfl rfl ?_
      refine ra_iconst rfl ?_
      refine ra_iconst rfl ?_
      refine ra_iconst rfl ?_
      refine ra_bipush rfl (by decide) ?_
      refine ra_cQPs (s9_256 (by first | omega | (unfold ra_in at *; omega)) (by first | omega | (unfold ra_in at *; omega)) (by first | omega | (unfold ra_in at *; omega)) (by first | omega | (unfold ra_in at *; omega)) hpt hld (by omega) hB hN hR) rfl (ct_256 rfl lk_8_260 (Or.inl rfl) sh_179 (Nat.le_of_ble_eq_true rfl)) (fun z100 s99 hz100 hz100p hs99 => ?_)
      have hz100o := hz100p.1
      have hz100q := hz100p.2
      obtain ⟨hf101, hc102, hc103, hc104, hc105, he106, he107, he108, he109, he110⟩ := hs99
      have hF111 := Fr_tr (lo := 179) (hi := 189) Fr_rf hf101 (by omega)
      have hk112 : s99 (181) = σ (181) := hc102
      have hk113 : s99 (182) = σ (182) := hc103
      have hk114 : s99 (183) = σ (183) := hc104
      have hk115 : s99 (184) = σ (184) := hc105
      exact ra_ireturn rfl (ra_okB hz100) ⟨⟨_, hz100, ⟨hz100o, (by rw [x4stm_tail (Iff.mp w2 (by omega))]; exact hz100q)⟩, rfl⟩, ⟨hF111, hk112, hk113, hk114, hk115, (fun a h15 h16 h17 h18 h19 h20 h21 => (he106 a h15 h16 h17 h18 h19 h20 h21)), he107, he108, (by have m_s99 := he109; omega), he110⟩⟩
  · refine ra_load rfl rfl rfl rfl ?_
    refine ra_iconst rfl ?_
    refine ra_iconst rfl ?_
    refine ra_iconst rfl ?_
    refine ra_bipush rfl (by decide) ?_
    refine ra_cQPs (s9_256 (by first | omega | (unfold ra_in at *; omega)) (by first | omega | (unfold ra_in at *; omega)) (by first | omega | (unfold ra_in at *; omega)) (by first | omega | (unfold ra_in at *; omega)) hpt hld (by omega) hB hN hR) rfl (ct_256 rfl lk_8_260 (Or.inl rfl) sh_179 (Nat.le_of_ble_eq_true rfl)) (fun z117 s116 hz117 hz117p hs116 => ?_)
    have hz117o := hz117p.1
    have hz117q := hz117p.2
    obtain ⟨hf118, hc119, hc120, hc121, hc122, he123, he124, he125, he126, he127⟩ := hs116
    have hF128 := Fr_tr (lo := 179) (hi := 189) Fr_rf hf118 (by omega)
    have hk129 : s116 (181) = σ (181) := hc119
    have hk130 : s116 (182) = σ (182) := hc120
    have hk131 : s116 (183) = σ (183) := hc121
    have hk132 : s116 (184) = σ (184) := hc122
    exact ra_ireturn rfl (ra_okB hz117) ⟨⟨_, hz117, ⟨hz117o, (by rw [x4stm_head (Iff.mp w1 (by omega))]; exact hz117q)⟩, rfl⟩, ⟨hF128, hk129, hk130, hk131, hk132, (fun a h15 h16 h17 h18 h19 h20 h21 => (he123 a h15 h16 h17 h18 h19 h20 h21)), he124, he125, (by have m_s116 := he126; omega), he127⟩⟩
theorem l9_261_56 {n : Nat} {f : Nat → Int32} {d : Nat}  {σ : ra_V} (hpt : 0 ≤ ra_g σ 179 18 ∧ ra_g σ 179 18 ≤ ra_g σ 179 17 ∧ ra_g σ 179 17 ≤ ra_g σ 179 12 ∧ ra_g σ 179 12 ≤ 500 ∧ 0 ≤ ra_g σ 179 19 ∧ ra_g σ 179 19 ≤ 999) (hld : LD σ) (h50 : ra_g σ 180 5 = 0) (hB : x4TR σ B bn) (hN : x4RTK B bn σ (tx_a B bn 0)) (hZ : ra_g σ 180 1 = 0 ∧ ra_g σ 180 2 = 0 ∧ ra_g σ 180 3 = 1 ∧ ra_g σ 180 4 = 4 ∧ ra_g σ 180 5 = 0) (hZ9 : ra_g σ 179 15 = 0 ∧ ra_g σ 179 16 = -1 ∧ ra_g σ 179 21 = 0) (hZX : (∀ a : Nat, a < 88 → a ≠ 0 → a ≠ 3 → a ≠ 4 → a ≠ 16 → ra_g σ 180 a = 0) ∧ ra_g σ 180 16 = -1) : ∀ (nn : Nat) (s : ra_V) (hF : Fr (179) (189) σ s) (hk0 : s (181) = σ (181)) (hk1 : s (182) = σ (182)) (hk2 : s (183) = σ (183)) (hk3 : s (184) = σ (184)) (hov : ∀ a, a ≠ 15 → a ≠ 16 → a ≠ 17 → a ≠ 18 → a ≠ 19 → a ≠ 20 → a ≠ 21 → ra_g s 179 a = ra_g σ 179 a) (hls : LD s) (hps : 0 ≤ ra_g s 179 18 ∧ ra_g s 179 18 ≤ ra_g s 179 17 ∧ ra_g s 179 17 ≤ ra_g s 179 12 ∧ ra_g s 179 12 ≤ 500 ∧ 0 ≤ ra_g s 179 19 ∧ ra_g s 179 19 ≤ 999) (hmo : ra_g σ 179 17 ≤ ra_g s 179 17) (hBs : x4TR s B bn) (k7 : s (187) = σ (187)) (hLI : x5RLI6 B bn s) (hm : ((501 - ra_g s 179 17 : Int)).toNat < nn), ra_P (g_Gs n f) g_sh 0 (d + 7) g_m_X8_readText 56 [some (.index (179))] [] s (fun r9 s => (∃ z : Int, (z = 0 ∨ z = 1) ∧ (x5RP6 s z (tx_text B bn)) ∧ r9 = .inl (some (ra_I z))) ∧ Fr (179) (189) σ s ∧ s (181) = σ (181) ∧ s (182) = σ (182) ∧ s (183) = σ (183) ∧ s (184) = σ (184) ∧ (∀ a, a ≠ 15 → a ≠ 16 → a ≠ 17 → a ≠ 18 → a ≠ 19 → a ≠ 20 → a ≠ 21 → ra_g s 179 a = ra_g σ 179 a) ∧ LD s ∧ (0 ≤ ra_g s 179 18 ∧ ra_g s 179 18 ≤ ra_g s 179 17 ∧ ra_g s 179 17 ≤ ra_g s 179 12 ∧ ra_g s 179 12 ≤ 500 ∧ 0 ≤ ra_g s 179 19 ∧ ra_g s 179 19 ≤ 999) ∧ ra_g σ 179 17 ≤ ra_g s 179 17 ∧ s (187) = σ (187)) := by
  intro nn
  induction nn with
  | zero => intro s hF hk0 hk1 hk2 hk3 hov hls hps hmo hBs k7 hLI hm; exact absurd hm (Nat.not_lt_zero _)
  | succ nn ih =>
    intro s hF hk0 hk1 hk2 hk3 hov hls hps hmo hBs k7 hLI hm
    have hw0 := WF_a hls.1
    unfold WFa at hw0
    have hLI0 := hLI
    obtain ⟨ki, ri, ii, hi1, hi2, hi3, hi4⟩ := hLI0
    refine ra_load rfl rfl rfl rfl ?_
    refine ra_getI rfl lk_8_204 (Nat.zero_le _) sh_179 rfl ?_
    have hr56 : ra_in (ra_g s (179) 20) := (ra_in_g _ _ _)
    refine ra_ifeq rfl rfl hr56 (fun h57 => ?_) (fun h57 => ?_)
    · refine ra_iconst rfl ?_
      exact ra_ireturn rfl (ra_okB (Or.inr rfl)) ⟨⟨_, (Or.inr rfl), (x5rp_e6 hLI (by omega) rfl), rfl⟩, ⟨hF, hk0, hk1, hk2, hk3, (fun a h15 h16 h17 h18 h19 h20 h21 => (hov a h15 h16 h17 h18 h19 h20 h21)), hls, hps, (by omega), k7⟩⟩
    · refine ra_load rfl rfl rfl rfl ?_
      refine ra_cQPs (s9_259 hps hls hBs hi3 hi2) rfl (ct_259 rfl lk_8_285 (Or.inl rfl) sh_179 (Nat.le_of_ble_eq_true rfl)) (fun z59 s58 hz59 hz59p hs58 => ?_)
      have hz59o := hz59p.1
      have hz59q := hz59p.2
      obtain ⟨hf60, hc61, hc62, hc63, hc64, he65, he66, he67, he68, he69⟩ := hs58
      have hF70 := Fr_tr (lo := 179) (hi := 189) hF hf60 (by omega)
      have hk71 : s58 (181) = σ (181) := hc61.trans hk0
      have hk72 : s58 (182) = σ (182) := hc62.trans hk1
      have hk73 : s58 (183) = σ (183) := hc63.trans hk2
      have hk74 : s58 (184) = σ (184) := hc64.trans hk3
      refine ra_ifeq rfl rfl (ra_in01 hz59) (fun h75 => ?_) (fun h75 => ?_)
      · refine ra_iconst rfl ?_
        exact ra_ireturn rfl (ra_okB (Or.inl rfl)) ⟨⟨_, (Or.inl rfl), (x5rp_n6 hi1 hi4 (by omega) hi3 (by omega) hz59q (by omega) rfl), rfl⟩, ⟨hF70, hk71, hk72, hk73, hk74, (fun a h15 h16 h17 h18 h19 h20 h21 => ((he65 a h15 h16 h17 h18 h19 h20 h21).trans (hov a h15 h16 h17 h18 h19 h20 h21))), he66, he67, (by have m_s58 := he68; omega), (he69.trans k7)⟩⟩
      · obtain ⟨-, r2, e2, hc1, hc2, hc3, hc4⟩ := hz59q.resolve_right (fun q => by omega)
        refine ra_load rfl rfl rfl rfl ?_
        refine ra_cQPs (s4_260 he67 (x4TR_k (he65 12 (by decide) (by decide) (by decide) (by decide) (by decide) (by decide) (by decide)) he69 hBs) (hc3) hc2.1.2.2.2.1.1) rfl (ct_260 rfl lk_8_282 (Or.inl rfl) sh_179 (Nat.le_of_ble_eq_true rfl)) (fun z77 s76 hz77 hz77p hs76 => ?_)
        have hz77o := hz77p.1
        have hz77q := hz77p.2
        obtain ⟨hf78, he79, he80, he81⟩ := hs76
        have hF82 := Fr_tr (lo := 179) (hi := 189) hF70 hf78 (by omega)
        have hk83 : s76 (181) = σ (181) := (hf78 (181) (by omega)).trans hk71
        have hk84 : s76 (182) = σ (182) := (hf78 (182) (by omega)).trans hk72
        have hk85 : s76 (183) = σ (183) := (hf78 (183) (by omega)).trans hk73
        have hk86 : s76 (184) = σ (184) := (hf78 (184) (by omega)).trans hk74
        refine ra_ifne rfl rfl (ra_in01 hz77) (fun h87 => ?_) (fun h87 => ?_)
        · exact ra_weak (by repeat' constructor) (ih s76 hF82 hk83 hk84 hk85 hk86 (fun a h15 h16 h17 h18 h19 h20 h21 => ((he79 a h15 h16 h17 h18 h19 h20).trans ((he65 a h15 h16 h17 h18 h19 h20 h21).trans (hov a h15 h16 h17 h18 h19 h20 h21)))) (LD_k (hf78 180 (by omega)) he66) he80 (by have m_s58 := he68; have m_s76 := he81; omega) (x4TR_k ((he79 12 (by decide) (by decide) (by decide) (by decide) (by decide) (by decide)).trans (he65 12 (by decide) (by decide) (by decide) (by decide) (by decide) (by decide) (by decide))) ((hf78 (187) (by omega)).trans he69) hBs) (((hf78 (187) (by omega)).trans he69).trans k7) (x5rli_s6 hi1 hi4 (by omega) hi3 (by omega) hc1 hc2 hz77q (by omega) (hf78 180 (by omega)) (he79 21 (by decide) (by decide) (by decide) (by decide) (by decide) (by decide)) (by have m_s58 := he68; have m_s76 := he81; have m_q := hz59o; have m_p := hz77o; omega)) (by first | omega | (unfold ra_in at *; omega)))
        · refine ra_iconst rfl ?_
          exact ra_ireturn rfl (ra_okB (Or.inl rfl)) ⟨⟨_, (Or.inl rfl), (x5rp_n26 hi1 hi4 (by omega) hi3 (by omega) hc1 hz77q (by omega) rfl), rfl⟩, ⟨hF82, hk83, hk84, hk85, hk86, (fun a h15 h16 h17 h18 h19 h20 h21 => ((he79 a h15 h16 h17 h18 h19 h20).trans ((he65 a h15 h16 h17 h18 h19 h20 h21).trans (hov a h15 h16 h17 h18 h19 h20 h21)))), (LD_k (hf78 180 (by omega)) he66), he80, (by have m_s58 := he68; have m_s76 := he81; omega), (((hf78 (187) (by omega)).trans he69).trans k7)⟩⟩
theorem s9_261 {n : Nat} {f : Nat → Int32} {d : Nat}  {σ : ra_V} (hpt : 0 ≤ ra_g σ 179 18 ∧ ra_g σ 179 18 ≤ ra_g σ 179 17 ∧ ra_g σ 179 17 ≤ ra_g σ 179 12 ∧ ra_g σ 179 12 ≤ 500 ∧ 0 ≤ ra_g σ 179 19 ∧ ra_g σ 179 19 ≤ 999) (hld : LD σ) (h50 : ra_g σ 180 5 = 0) (hB : x4TR σ B bn) (hN : x4RTK B bn σ (tx_a B bn 0)) (hZ : ra_g σ 180 1 = 0 ∧ ra_g σ 180 2 = 0 ∧ ra_g σ 180 3 = 1 ∧ ra_g σ 180 4 = 4 ∧ ra_g σ 180 5 = 0) (hZ9 : ra_g σ 179 15 = 0 ∧ ra_g σ 179 16 = -1 ∧ ra_g σ 179 21 = 0) (hZX : (∀ a : Nat, a < 88 → a ≠ 0 → a ≠ 3 → a ≠ 4 → a ≠ 16 → ra_g σ 180 a = 0) ∧ ra_g σ 180 16 = -1) : ra_C (g_Gs n f) g_sh 0 (d + 8) 261 [.index (179)] σ (fun r9 s => (∃ z : Int, (z = 0 ∨ z = 1) ∧ (x5RP6 s z (tx_text B bn)) ∧ r9 = .inl (some (ra_I z))) ∧ Fr (179) (189) σ s ∧ s (181) = σ (181) ∧ s (182) = σ (182) ∧ s (183) = σ (183) ∧ s (184) = σ (184) ∧ (∀ a, a ≠ 15 → a ≠ 16 → a ≠ 17 → a ≠ 18 → a ≠ 19 → a ≠ 20 → a ≠ 21 → ra_g s 179 a = ra_g σ 179 a) ∧ LD s ∧ (0 ≤ ra_g s 179 18 ∧ ra_g s 179 18 ≤ ra_g s 179 17 ∧ ra_g s 179 17 ≤ ra_g s 179 12 ∧ ra_g s 179 12 ≤ 500 ∧ 0 ≤ ra_g s 179 19 ∧ ra_g s 179 19 ≤ 999) ∧ ra_g σ 179 17 ≤ ra_g s 179 17 ∧ s (187) = σ (187)) := by
  refine ra_enter (nn := 0) mt_261 rfl (Nat.le_of_ble_eq_true rfl) rfl (fun h => absurd h (by decide +kernel)) ?_
  have hw0 := WF_a hld.1
  unfold WFa at hw0
  have hl5 := hld.2.2.1
  have hZ0 := hZ
  obtain ⟨z1, z2, z3, z4, z5⟩ := hZ0
  have hZ90 := hZ9
  obtain ⟨z15, z16, z21⟩ := hZ90
  have hN0 := hN
  obtain ⟨n1, n2, n3, -, n5, n6, n7⟩ := hN0
  refine ra_load rfl rfl rfl rfl ?_
  refine ra_ldcwS rfl lk_8_280 ?_
  refine ra_cQPp (s4_253 lk_8_280 (by decide) hpt hB hN) rfl (ct_253 rfl lk_8_256 (Or.inl rfl) sh_179 (Nat.le_of_ble_eq_true rfl)) (fun z2 hz2 hz2p => ?_)
  have w1 : x4IFW z2 (tx_isw B bn (tx_a B bn 0) ['d', 'i', 's', 'k'] = true) := by rw [show "disk".toList = ['d', 'i', 's', 'k'] by decide] at hz2p; exact hz2p
  clear hz2p
  refine ra_ifne rfl rfl (ra_in01 hz2) (fun h3 => ?_) (fun h3 => ?_)
  · refine ra_load rfl rfl rfl rfl ?_
    refine ra_cV (s4_250 (by have q := hpt; omega) hB (show ra_g σ 179 17 = ((tx_e B bn (tx_a B bn 0) : Nat) : Int) from (rfl).trans hN.2.1) (by omega)) rfl (ct_250 rfl lk_8_240 (Or.inl rfl) sh_179 (Nat.le_of_ble_eq_true rfl)) (fun s4 hs4 => ?_)
    obtain ⟨hf5, he6, he7, he8, he9⟩ := hs4
    have hF10 := Fr_tr (lo := 179) (hi := 189) Fr_rf hf5 (by omega)
    have hk11 : s4 (180) = σ (180) := (hf5 (180) (by omega))
    have hk12 : s4 (181) = σ (181) := (hf5 (181) (by omega))
    have hk13 : s4 (182) = σ (182) := (hf5 (182) (by omega))
    have hk14 : s4 (183) = σ (183) := (hf5 (183) (by omega))
    have hk15 : s4 (184) = σ (184) := (hf5 (184) (by omega))
    have hk16 : s4 (187) = σ (187) := (hf5 (187) (by omega))
    refine ra_load rfl rfl rfl rfl ?_
    refine ra_iconst rfl ?_
    refine ra_bipush rfl (by decide) ?_
    refine ra_sipush rfl (by decide) ?_
    refine ra_cQPs (s4_255 (by first | omega | (unfold ra_in at *; omega)) (by first | omega | (unfold ra_in at *; omega)) (by first | omega | (unfold ra_in at *; omega)) he7 (by first | assumption | rfl | omega) (x4TR_k (he6 12 (by decide) (by decide) (by decide) (by decide)) (hf5 (187) (by omega)) hB) he9 (((he6 15 (by decide) (by decide) (by decide) (by decide))).trans z15)) rfl (ct_255 rfl lk_8_246 (Or.inl rfl) sh_179 (Nat.le_of_ble_eq_true rfl)) (fun z18 s17 hz18 hz18p hs17 => ?_)
    have hz18o := hz18p.1
    have hz18q := hz18p.2
    obtain ⟨hf19, hc20, hc21, hc22, hc23, hc24, he25, he26, he27, he28, he29⟩ := hs17
    have hF30 := Fr_tr (lo := 179) (hi := 189) hF10 hf19 (by omega)
    have hk31 : s17 (180) = σ (180) := hc20.trans hk11
    have hk32 : s17 (181) = σ (181) := hc21.trans hk12
    have hk33 : s17 (182) = σ (182) := hc22.trans hk13
    have hk34 : s17 (183) = σ (183) := hc23.trans hk14
    have hk35 : s17 (184) = σ (184) := hc24.trans hk15
    refine ra_ifne rfl rfl (ra_in01 hz18) (fun h36 => ?_) (fun h36 => ?_)
    · rw [toN0] at hz18q
      obtain ⟨-, hr1, hK1, hl1, hu1, he1, he1b⟩ := hz18q.resolve_right (fun q => by omega)
      have ht := hz18o (by omega)
      rw [toN0] at ht
      have hld1 := (LD_k hc20 (LD_k (hf5 180 (by omega)) hld))
      have h51 : ra_g s17 180 5 = ra_g σ 180 5 := ra_gk hk31
      refine ra_load rfl rfl rfl rfl ?_
      refine ra_getR rfl lk_8_7 (Nat.zero_le _) sh_179 rfl ?_
      refine ra_iconst rfl ?_
      refine ra_load rfl rfl rfl rfl ?_
      refine ra_getR rfl lk_8_38 (Nat.zero_le _) sh_179 rfl ?_
      refine ra_iconst rfl ?_
      refine ra_ialoadJ (j := 0) rfl sh_188 rfl (by decide) rfl (by decide) ?_
      have hr37 : ra_in (ra_g s17 (188) 0) := (ra_in_g _ _ _)
      refine ra_iastoreJ (j := 0) rfl sh_180 rfl (by decide) rfl (by decide) ?_
      refine ra_newR hr37 (fun s38 hs38 hs38v hs38o => ?_)
      have hF39 := Fr_tr (lo := 179) (hi := 189) hF30 hs38 (by omega)
      have hk40 : s38 (181) = σ (181) := (hs38 (181) (by omega)).trans hk32
      have hk41 : s38 (182) = σ (182) := (hs38 (182) (by omega)).trans hk33
      have hk42 : s38 (183) = σ (183) := (hs38 (183) (by omega)).trans hk34
      have hk43 : s38 (184) = σ (184) := (hs38 (184) (by omega)).trans hk35
      have hR4 : x5R6 (tx_r0 (ra_g s17 188 0)) s38 := x5R6_0 ⟨hs38v, ((hs38o 1 (by decide)).trans (ra_gk (hc20.trans (hf5 (180) (by omega))))).trans (by omega), ((hs38o 2 (by decide)).trans (ra_gk (hc20.trans (hf5 (180) (by omega))))).trans (by omega), ((hs38o 3 (by decide)).trans (ra_gk (hc20.trans (hf5 (180) (by omega))))).trans (by omega), ((hs38o 4 (by decide)).trans (ra_gk (hc20.trans (hf5 (180) (by omega))))).trans (by omega), ((hs38o 5 (by decide)).trans (ra_gk (hc20.trans (hf5 (180) (by omega))))).trans (by omega)⟩ ⟨by have a : ra_g s38 179 15 = ra_g s17 179 15 := (ra_gk (hs38 179 (by omega))); omega, by have a : ra_g s38 179 16 = ra_g s17 179 16 := (ra_gk (hs38 179 (by omega))); have b : ra_g s4 179 16 = ra_g σ 179 16 := (he6 16 (by decide) (by decide) (by decide) (by decide)); omega, (((ra_gk (hs38 179 (by omega))).trans ((he25 21 (by decide) (by decide) (by decide) (by decide) (by decide) (by decide)).trans (he6 21 (by decide) (by decide) (by decide) (by decide))))).trans z21⟩ (fun a h0 => (hs38o a h0).trans (ra_gk (hc20.trans (hf5 (180) (by omega))))) hZX
      refine ra_load rfl rfl rfl rfl ?_
      refine ra_cQPs (s4_260 (pt_e (ra_gk (hs38 179 (by omega))) (ra_gk (hs38 179 (by omega))) (ra_gk (hs38 179 (by omega))) (ra_gk (hs38 179 (by omega))) he27) (x4TR_k ((ra_gk (hs38 179 (by omega))).trans ((he25 12 (by decide) (by decide) (by decide) (by decide) (by decide) (by decide)).trans (he6 12 (by decide) (by decide) (by decide) (by decide)))) ((hs38 (187) (by omega)).trans (he29.trans (hf5 (187) (by omega)))) hB) (x4RTK_k (ra_gk (hs38 179 (by omega))) (ra_gk (hs38 179 (by omega))) (ra_gk (hs38 179 (by omega))) (ra_gk (hs38 179 (by omega))) hK1) hR4.1.2.2.2.1.1) rfl (ct_260 rfl lk_8_282 (Or.inl rfl) sh_179 (Nat.le_of_ble_eq_true rfl)) (fun z45 s44 hz45 hz45p hs44 => ?_)
      have hz45o := hz45p.1
      have hz45q := hz45p.2
      obtain ⟨hf46, he47, he48, he49⟩ := hs44
      have hF50 := Fr_tr (lo := 179) (hi := 189) hF39 hf46 (by omega)
      have hk51 : s44 (181) = σ (181) := (hf46 (181) (by omega)).trans hk40
      have hk52 : s44 (182) = σ (182) := (hf46 (182) (by omega)).trans hk41
      have hk53 : s44 (183) = σ (183) := (hf46 (183) (by omega)).trans hk42
      have hk54 : s44 (184) = σ (184) := (hf46 (184) (by omega)).trans hk43
      refine ra_ifne rfl rfl (ra_in01 hz45) (fun h55 => ?_) (fun h55 => ?_)
      · exact ra_weak (by repeat' constructor) (l9_261_56 hpt hld h50 hB hN hZ hZ9 hZX _ s44 hF50 hk51 hk52 hk53 hk54 (fun a h15 h16 h17 h18 h19 h20 h21 => ((he47 a h15 h16 h17 h18 h19 h20).trans ((ra_gk (hs38 179 (by omega))).trans ((he25 a h15 h16 h17 h18 h19 h20).trans (he6 a h17 h18 h19 h20))))) (LD_k (hf46 180 (by omega)) (LD_set (j := 0) hld1 (by omega) hs38o (fun q => by have t := hs38v; omega) (fun q => by omega) (fun q => by omega) (fun q => by omega) (by omega))) he48 (by have m_s4 := he8.1; have m_s17 := he28; have m_s38 : ra_g s38 179 17 = ra_g s17 179 17 := (ra_gk (hs38 179 (by omega))); have k_s38 : ra_g s38 179 20 = ra_g s17 179 20 := (ra_gk (hs38 179 (by omega))); have m_s44 := he49; omega) (x4TR_k ((he47 12 (by decide) (by decide) (by decide) (by decide) (by decide) (by decide)).trans ((ra_gk (hs38 179 (by omega))).trans ((he25 12 (by decide) (by decide) (by decide) (by decide) (by decide) (by decide)).trans (he6 12 (by decide) (by decide) (by decide) (by decide))))) ((hf46 (187) (by omega)).trans ((hs38 (187) (by omega)).trans (he29.trans (hf5 (187) (by omega))))) hB) ((hf46 (187) (by omega)).trans ((hs38 (187) (by omega)).trans (he29.trans (hf5 (187) (by omega))))) (x5rli_06 (Iff.mp w1 (by omega)) hr1 hR4 hz45q (by omega) (hf46 180 (by omega)) (he47 21 (by decide) (by decide) (by decide) (by decide) (by decide) (by decide)) (by have a := x4isw_iff.mp (Iff.mp w1 (by omega)); have a2 : tx_e B bn (tx_a B bn 0) - tx_a B bn 0 = 4 := a.2.1; have m_s4 := he8.1; have m_s17 := he28; have m_s38 : ra_g s38 179 17 = ra_g s17 179 17 := (ra_gk (hs38 179 (by omega))); have k_s38 : ra_g s38 179 20 = ra_g s17 179 20 := (ra_gk (hs38 179 (by omega))); have m_s44 := he49; omega)) (Nat.lt_succ_self _))
      · refine ra_iconst rfl ?_
        exact ra_ireturn rfl (ra_okB (Or.inl rfl)) ⟨⟨_, (Or.inl rfl), (x5rp_s6 hz45q (by omega) rfl (fun x hx => x4text_3 (Iff.mp w1 (by omega)) hr1 hx)), rfl⟩, ⟨hF50, hk51, hk52, hk53, hk54, (fun a h15 h16 h17 h18 h19 h20 h21 => ((he47 a h15 h16 h17 h18 h19 h20).trans ((ra_gk (hs38 179 (by omega))).trans ((he25 a h15 h16 h17 h18 h19 h20).trans (he6 a h17 h18 h19 h20))))), (LD_k (hf46 180 (by omega)) (LD_set (j := 0) hld1 (by omega) hs38o (fun q => by have t := hs38v; omega) (fun q => by omega) (fun q => by omega) (fun q => by omega) (by omega))), he48, (by have m_s4 := he8.1; have m_s17 := he28; have m_s38 : ra_g s38 179 17 = ra_g s17 179 17 := (ra_gk (hs38 179 (by omega))); have k_s38 : ra_g s38 179 20 = ra_g s17 179 20 := (ra_gk (hs38 179 (by omega))); have m_s44 := he49; omega), ((hf46 (187) (by omega)).trans ((hs38 (187) (by omega)).trans (he29.trans (hf5 (187) (by omega)))))⟩⟩
    · refine ra_iconst rfl ?_
      exact ra_ireturn rfl (ra_okB (Or.inl rfl)) ⟨⟨_, (Or.inl rfl), (x5rp_t6 hz18q (by omega) rfl (fun x hx => x4text_2 (Iff.mp w1 (by omega)) hx)), rfl⟩, ⟨hF30, hk32, hk33, hk34, hk35, (fun a h15 h16 h17 h18 h19 h20 h21 => ((he25 a h15 h16 h17 h18 h19 h20).trans (he6 a h17 h18 h19 h20))), (LD_k hc20 (LD_k (hf5 180 (by omega)) hld)), he27, (by have m_s4 := he8.1; have m_s17 := he28; omega), (he29.trans (hf5 (187) (by omega)))⟩⟩
  · refine ra_load rfl rfl rfl rfl ?_
    refine ra_iconst rfl ?_
    refine ra_cQP (s4_252 (by first | omega | (unfold ra_in at *; omega))) rfl (ct_252 rfl lk_8_233 (Or.inl rfl) sh_179 (Nat.le_of_ble_eq_true rfl)) (fun z89 s88 hz89 hz89p hs88 => ?_)
    obtain ⟨hf90, he91, he92⟩ := hs88
    have hF93 := Fr_tr (lo := 179) (hi := 189) Fr_rf hf90 (by omega)
    have hk94 : s88 (180) = σ (180) := (hf90 (180) (by omega))
    have hk95 : s88 (181) = σ (181) := (hf90 (181) (by omega))
    have hk96 : s88 (182) = σ (182) := (hf90 (182) (by omega))
    have hk97 : s88 (183) = σ (183) := (hf90 (183) (by omega))
    have hk98 : s88 (184) = σ (184) := (hf90 (184) (by omega))
    have hk99 : s88 (187) = σ (187) := (hf90 (187) (by omega))
    exact ra_ireturn rfl (ra_okB hz89) ⟨⟨_, hz89, (x5rp_f6 (c := 1) (a := tx_a B bn 0) hz89p (x4text_1 (fun q => absurd (Iff.mpr w1 q) (by omega))) (by have q := he92 z15; omega) (by have q := he92 z15; omega)), rfl⟩, ⟨hF93, hk95, hk96, hk97, hk98, (fun a h15 h16 h17 h18 h19 h20 h21 => (he91 a h15 h16)), (LD_k (hf90 180 (by omega)) hld), (pt_e (he91 12 (by decide) (by decide)) (he91 17 (by decide) (by decide)) (he91 18 (by decide) (by decide)) (he91 19 (by decide) (by decide)) hpt), (by have m_s88 : ra_g s88 179 17 = ra_g σ 179 17 := (he91 17 (by decide) (by decide)); have k_s88 : ra_g s88 179 20 = ra_g σ 179 20 := (he91 20 (by decide) (by decide)); omega), (hf90 (187) (by omega))⟩⟩
end
