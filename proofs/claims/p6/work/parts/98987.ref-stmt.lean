/-! T4: what the reference's methods that read a text do (printed by wip/gen/r4.py) -/
section
variable {B : Nat → Int} {bn ps ta ti : Nat} {r : Nat → Int}
theorem s4_258 {n : Nat} {f : Nat → Int32} {d : Nat}  {σ : ra_V} (hpt : 0 ≤ ra_g σ 179 18 ∧ ra_g σ 179 18 ≤ ra_g σ 179 17 ∧ ra_g σ 179 17 ≤ ra_g σ 179 12 ∧ ra_g σ 179 12 ≤ 500 ∧ 0 ≤ ra_g σ 179 19 ∧ ra_g σ 179 19 ≤ 999) (hld : LD σ) (hB : x4TR σ B bn) (hN : x4RTK B bn σ ta) (hR : x4RR r σ) : ra_C (g_Gs n f) g_sh 0 (d + 7) 258 [.index (179)] σ (fun r9 s => (∃ z : Int, (z = 0 ∨ z = 1) ∧ ((z = 1 → ra_g s 179 20 = 3 → ra_g σ 179 17 < ra_g s 179 17) ∧ x4ROC B bn s z (tx_stmt B bn r ta)) ∧ r9 = .inl (some (ra_I z))) ∧ Fr (179) (189) σ s ∧ s (181) = σ (181) ∧ s (182) = σ (182) ∧ s (183) = σ (183) ∧ s (184) = σ (184) ∧ (∀ a, a ≠ 15 → a ≠ 16 → a ≠ 17 → a ≠ 18 → a ≠ 19 → a ≠ 20 → a ≠ 21 → ra_g s 179 a = ra_g σ 179 a) ∧ LD s ∧ (0 ≤ ra_g s 179 18 ∧ ra_g s 179 18 ≤ ra_g s 179 17 ∧ ra_g s 179 17 ≤ ra_g s 179 12 ∧ ra_g s 179 12 ≤ 500 ∧ 0 ≤ ra_g s 179 19 ∧ ra_g s 179 19 ≤ 999) ∧ ra_g σ 179 17 ≤ ra_g s 179 17 ∧ s (187) = σ (187)) := by
  refine ra_enter (nn := 0) mt_258 rfl (Nat.le_of_ble_eq_true rfl) rfl (fun h => absurd h (by decide +kernel)) ?_
  have hw0 := WF_a hld.1
  unfold WFa at hw0
  have hl5 := hld.2.2.1
  have hR0 := hR
  obtain ⟨⟨q0, q1, q2, q3, q4, q5⟩, q21, -, ⟨q15, q16⟩, qp⟩ := hR0
  have hN0 := hN
  obtain ⟨n1, n2, n3, -, n5, n6, n7⟩ := hN0
  refine ra_load rfl rfl rfl rfl ?_
  refine ra_ldcS rfl lk_8_254 ?_
  refine ra_cQPp (s4_252 lk_8_254 (by decide) hpt hB hN) rfl (ct_252 rfl lk_8_256 (Or.inl rfl) sh_179 (Nat.le_of_ble_eq_true rfl)) (fun z2 hz2 hz2p => ?_)
  have w1 : x4IFW z2 (tx_isw B bn ta ['h', 'e', 'a', 'd'] = true) := by rw [show "head".toList = ['h', 'e', 'a', 'd'] by decide] at hz2p; exact hz2p
  clear hz2p
  refine ra_ifeq rfl rfl (ra_in01 hz2) (fun h3 => ?_) (fun h3 => ?_)
  · refine ra_load rfl rfl rfl rfl ?_
    refine ra_ldcwS rfl lk_8_264 ?_
    refine ra_cQPp (s4_252 lk_8_264 (by decide) hpt hB hN) rfl (ct_252 rfl lk_8_256 (Or.inl rfl) sh_179 (Nat.le_of_ble_eq_true rfl)) (fun z5 hz5 hz5p => ?_)
    have w2 : x4IFW z5 (tx_isw B bn ta ['t', 'a', 'i', 'l'] = true) := by rw [show "tail".toList = ['t', 'a', 'i', 'l'] by decide] at hz5p; exact hz5p
    clear hz5p
    refine ra_ifeq rfl rfl (ra_in01 hz5) (fun h6 => ?_) (fun h6 => ?_)
    · refine ra_load rfl rfl rfl rfl ?_
      refine ra_ldcwS rfl lk_8_266 ?_
      refine ra_cQPp (s4_252 lk_8_266 (by decide) hpt hB hN) rfl (ct_252 rfl lk_8_256 (Or.inl rfl) sh_179 (Nat.le_of_ble_eq_true rfl)) (fun z8 hz8 hz8p => ?_)
      have w3 : x4IFW z8 (tx_isw B bn ta ['a', 'l', 'i', 'g', 'n'] = true) := by rw [show "align".toList = ['a', 'l', 'i', 'g', 'n'] by decide] at hz8p; exact hz8p
      clear hz8p
      refine ra_ifeq rfl rfl (ra_in01 hz8) (fun h9 => ?_) (fun h9 => ?_)
      · refine ra_load rfl rfl rfl rfl ?_
        refine ra_ldcwS rfl lk_8_268 ?_
        refine ra_cQPp (s4_252 lk_8_268 (by decide) hpt hB hN) rfl (ct_252 rfl lk_8_256 (Or.inl rfl) sh_179 (Nat.le_of_ble_eq_true rfl)) (fun z11 hz11 hz11p => ?_)
        have w4 : x4IFW z11 (tx_isw B bn ta ['c', 'h', 'u', 'n', 'k'] = true) := by rw [show "chunk".toList = ['c', 'h', 'u', 'n', 'k'] by decide] at hz11p; exact hz11p
        clear hz11p
        refine ra_ifeq rfl rfl (ra_in01 hz11) (fun h12 => ?_) (fun h12 => ?_)
        · refine ra_load rfl rfl rfl rfl ?_
          refine ra_ldcwS rfl lk_8_270 ?_
          refine ra_cQPp (s4_252 lk_8_270 (by decide) hpt hB hN) rfl (ct_252 rfl lk_8_256 (Or.inl rfl) sh_179 (Nat.le_of_ble_eq_true rfl)) (fun z14 hz14 hz14p => ?_)
          have w5 : x4IFW z14 (tx_isw B bn ta ['p', 'a', 'r', 't'] = true) := by rw [show "part".toList = ['p', 'a', 'r', 't'] by decide] at hz14p; exact hz14p
          clear hz14p
          refine ra_ifeq rfl rfl (ra_in01 hz14) (fun h15 => ?_) (fun h15 => ?_)
          · refine ra_load rfl rfl rfl rfl ?_
            refine ra_ldcwS rfl lk_8_275 ?_
            refine ra_cQPp (s4_252 lk_8_275 (by decide) hpt hB hN) rfl (ct_252 rfl lk_8_256 (Or.inl rfl) sh_179 (Nat.le_of_ble_eq_true rfl)) (fun z17 hz17 hz17p => ?_)
            have w6 : x4IFW z17 (tx_isw B bn ta ['l', 'o', 'c', 'k'] = true) := by rw [show "lock".toList = ['l', 'o', 'c', 'k'] by decide] at hz17p; exact hz17p
            clear hz17p
            refine ra_ifeq rfl rfl (ra_in01 hz17) (fun h18 => ?_) (fun h18 => ?_)
            · refine ra_load rfl rfl rfl rfl ?_
              refine ra_iconst rfl ?_
              refine ra_cQP (s4_251 (by first | omega | (unfold ra_in at *; omega))) rfl (ct_251 rfl lk_8_233 (Or.inl rfl) sh_179 (Nat.le_of_ble_eq_true rfl)) (fun z20 s19 hz20 hz20p hs19 => ?_)
              obtain ⟨hf21, he22, he23⟩ := hs19
              have hF24 := Fr_tr (lo := 179) (hi := 189) Fr_rf hf21 (by omega)
              have hk25 : s19 (180) = σ (180) := (hf21 (180) (by omega))
              have hk26 : s19 (181) = σ (181) := (hf21 (181) (by omega))
              have hk27 : s19 (182) = σ (182) := (hf21 (182) (by omega))
              have hk28 : s19 (183) = σ (183) := (hf21 (183) (by omega))
              have hk29 : s19 (184) = σ (184) := (hf21 (184) (by omega))
              have hk30 : s19 (187) = σ (187) := (hf21 (187) (by omega))
              exact ra_ireturn rfl (ra_okB hz20) ⟨⟨_, hz20, ⟨(fun q => absurd q (by omega)), (x4ro_f (c := 1) (a := ta) hz20p (x4stm_no (fun q => absurd (Iff.mpr w1 q) (by omega)) (fun q => absurd (Iff.mpr w2 q) (by omega)) (fun q => absurd (Iff.mpr w3 q) (by omega)) (fun q => absurd (Iff.mpr w4 q) (by omega)) (fun q => absurd (Iff.mpr w5 q) (by omega)) (fun q => absurd (Iff.mpr w6 q) (by omega))) (by have q := he23 q15; omega) (by have q := he23 q15; omega))⟩, rfl⟩, ⟨hF24, hk26, hk27, hk28, hk29, (fun a h15 h16 h17 h18 h19 h20 h21 => (he22 a h15 h16)), (LD_k (hf21 180 (by omega)) hld), (pt_e (he22 12 (by decide) (by decide)) (he22 17 (by decide) (by decide)) (he22 18 (by decide) (by decide)) (he22 19 (by decide) (by decide)) hpt), (by have m_s19 : ra_g s19 179 17 = ra_g σ 179 17 := (he22 17 (by decide) (by decide)); have k_s19 : ra_g s19 179 20 = ra_g σ 179 20 := (he22 20 (by decide) (by decide)); omega), (hf21 (187) (by omega))⟩⟩
            · refine ra_load rfl rfl rfl rfl ?_
              refine ra_cQPs (s4_257 hpt hld hB hN hR) rfl (ct_257 rfl lk_8_277 (Or.inl rfl) sh_179 (Nat.le_of_ble_eq_true rfl)) (fun z32 s31 hz32 hz32p hs31 => ?_)
              have hz32o := hz32p.1
              have hz32q := hz32p.2
              obtain ⟨hf33, hc34, hc35, hc36, hc37, he38, he39, he40, he41, he42⟩ := hs31
              have hF43 := Fr_tr (lo := 179) (hi := 189) Fr_rf hf33 (by omega)
              have hk44 : s31 (181) = σ (181) := hc34
              have hk45 : s31 (182) = σ (182) := hc35
              have hk46 : s31 (183) = σ (183) := hc36
              have hk47 : s31 (184) = σ (184) := hc37
              refine ra_goto rfl rfl ?_
              exact ra_ireturn rfl (ra_okB hz32) ⟨⟨_, hz32, ⟨hz32o, (by rw [x4stm_lock (Iff.mp w6 (by omega))]; exact hz32q)⟩, rfl⟩, ⟨hF43, hk44, hk45, hk46, hk47, (fun a h15 h16 h17 h18 h19 h20 h21 => (he38 a h15 h16 h17 h18 h19 h20 h21)), he39, he40, (by have m_s31 := he41; omega), he42⟩⟩
          · refine ra_load rfl rfl rfl rfl ?_
            refine ra_cQPs (s4_256 hpt hld hB hN hR) rfl (ct_256 rfl lk_8_272 (Or.inl rfl) sh_179 (Nat.le_of_ble_eq_true rfl)) (fun z49 s48 hz49 hz49p hs48 => ?_)
            have hz49o := hz49p.1
            have hz49q := hz49p.2
            obtain ⟨hf50, hc51, hc52, hc53, hc54, he55, he56, he57, he58, he59⟩ := hs48
            have hF60 := Fr_tr (lo := 179) (hi := 189) Fr_rf hf50 (by omega)
            have hk61 : s48 (181) = σ (181) := hc51
            have hk62 : s48 (182) = σ (182) := hc52
            have hk63 : s48 (183) = σ (183) := hc53
            have hk64 : s48 (184) = σ (184) := hc54
            exact ra_ireturn rfl (ra_okB hz49) ⟨⟨_, hz49, ⟨hz49o, (by rw [x4stm_part (Iff.mp w5 (by omega))]; exact hz49q)⟩, rfl⟩, ⟨hF60, hk61, hk62, hk63, hk64, (fun a h15 h16 h17 h18 h19 h20 h21 => (he55 a h15 h16 h17 h18 h19 h20 h21)), he56, he57, (by have m_s48 := he58; omega), he59⟩⟩
        · refine ra_load rfl rfl rfl rfl ?_
          refine ra_iconst rfl ?_
          refine ra_bipush rfl (by decide) ?_
          refine ra_iconst rfl ?_
          refine ra_bipush rfl (by decide) ?_
          refine ra_cQPs (s4_255 (by first | omega | (unfold ra_in at *; omega)) (by first | omega | (unfold ra_in at *; omega)) (by first | omega | (unfold ra_in at *; omega)) (by first | omega | (unfold ra_in at *; omega)) hpt hld (by omega) hB hN hR) rfl (ct_255 rfl lk_8_260 (Or.inl rfl) sh_179 (Nat.le_of_ble_eq_true rfl)) (fun z66 s65 hz66 hz66p hs65 => ?_)
          have hz66o := hz66p.1
          have hz66q := hz66p.2
          obtain ⟨hf67, hc68, hc69, hc70, hc71, he72, he73, he74, he75, he76⟩ := hs65
          have hF77 := Fr_tr (lo := 179) (hi := 189) Fr_rf hf67 (by omega)
          have hk78 : s65 (181) = σ (181) := hc68
          have hk79 : s65 (182) = σ (182) := hc69
          have hk80 : s65 (183) = σ (183) := hc70
          have hk81 : s65 (184) = σ (184) := hc71
          exact ra_ireturn rfl (ra_okB hz66) ⟨⟨_, hz66, ⟨hz66o, (by rw [x4stm_chunk (Iff.mp w4 (by omega))]; exact hz66q)⟩, rfl⟩, ⟨hF77, hk78, hk79, hk80, hk81, (fun a h15 h16 h17 h18 h19 h20 h21 => (he72 a h15 h16 h17 h18 h19 h20 h21)), he73, he74, (by have m_s65 := he75; omega), he76⟩⟩
      · refine ra_load rfl rfl rfl rfl ?_
        refine ra_iconst rfl ?_
        refine ra_iconst rfl ?_
        refine ra_iconst rfl ?_
        refine ra_bipush rfl (by decide) ?_
        refine ra_cQPs (s4_255 (by first | omega | (unfold ra_in at *; omega)) (by first | omega | (unfold ra_in at *; omega)) (by first | omega | (unfold ra_in at *; omega)) (by first | omega | (unfold ra_in at *; omega)) hpt hld (by omega) hB hN hR) rfl (ct_255 rfl lk_8_260 (Or.inl rfl) sh_179 (Nat.le_of_ble_eq_true rfl)) (fun z83 s82 hz83 hz83p hs82 => ?_)
        have hz83o := hz83p.1
        have hz83q := hz83p.2
        obtain ⟨hf84, hc85, hc86, hc87, hc88, he89, he90, he91, he92, he93⟩ := hs82
        have hF94 := Fr_tr (lo := 179) (hi := 189) Fr_rf hf84 (by omega)
        have hk95 : s82 (181) = σ (181) := hc85
        have hk96 : s82 (182) = σ (182) := hc86
        have hk97 : s82 (183) = σ (183) := hc87
        have hk98 : s82 (184) = σ (184) := hc88
        exact ra_ireturn rfl (ra_okB hz83) ⟨⟨_, hz83, ⟨hz83o, (by rw [x4stm_align (Iff.mp w3 (by omega))]; exact hz83q)⟩, rfl⟩, ⟨hF94, hk95, hk96, hk97, hk98, (fun a h15 h16 h17 h18 h19 h20 h21 => (he89 a h15 h16 h17 h18 h19 h20 h21)), he90, he91, (by have m_s82 := he92; omega), he93⟩⟩
    · refine ra_load rfl rfl rfl rfl ?_
      refine ra_iconst rfl ?_
      refine ra_iconst rfl ?_
      refine ra_iconst rfl ?_
      refine ra_bipush rfl (by decide) ?_
      refine ra_cQPs (s4_255 (by first | omega | (unfold ra_in at *; omega)) (by first | omega | (unfold ra_in at *; omega)) (by first | omega | (unfold ra_in at *; omega)) (by first | omega | (unfold ra_in at *; omega)) hpt hld (by omega) hB hN hR) rfl (ct_255 rfl lk_8_260 (Or.inl rfl) sh_179 (Nat.le_of_ble_eq_true rfl)) (fun z100 s99 hz100 hz100p hs99 => ?_)
      have hz100o := hz100p.1
      have hz100q := hz100p.2
      obtain ⟨hf101, hc102, hc103, hc104, hc105, he106, he107, he108, he109, he110⟩ := hs99
      have hF111 := Fr_tr (lo := 179) (hi := 189) Fr_rf hf101 (by omega)
      have hk112 : s99 (181) = σ (181) := hc102
      have hk113 : s99 (182) = σ (182) := hc103
      have hk114 : s99 (183) = σ (183) := hc104
      have hk115 : s99 (184) = σ (184) := hc105
      exact ra_ireturn rfl (ra_okB hz100) ⟨⟨_, hz100, ⟨hz100o, (by rw [x4stm_tail (Iff.mp w2 (by omega))]; exact hz100q)⟩, rfl⟩, ⟨hF111, hk112, hk113, hk114, hk115, (fun a h15 h16 h17 h18 h19 h20 h21 => (he106 a h15 h16 h17 h18 h19 h20 h21)), he107, he108, (by have m_s99 := he109; omega), he110⟩⟩
  · refine ra_load rfl rfl rfl rfl ?_
    refine ra_iconst rfl ?_
    refine ra_iconst rfl ?_
    refine ra_iconst rfl ?_
    refine ra_bipush rfl (by decide) ?_
    refine ra_cQPs (s4_255 (by first | omega | (unfold ra_in at *; omega)) (by first | omega | (unfold ra_in at *; omega)) (by first | omega | (unfold ra_in at *; omega)) (by first | omega | (unfold ra_in at *; omega)) hpt hld (by omega) hB hN hR) rfl (ct_255 rfl lk_8_260 (Or.inl rfl) sh_179 (Nat.le_of_ble_eq_true rfl)) (fun z117 s116 hz117 hz117p hs116 => ?_)
    have hz117o := hz117p.1
    have hz117q := hz117p.2
    obtain ⟨hf118, hc119, hc120, hc121, hc122, he123, he124, he125, he126, he127⟩ := hs116
    have hF128 := Fr_tr (lo := 179) (hi := 189) Fr_rf hf118 (by omega)
    have hk129 : s116 (181) = σ (181) := hc119
    have hk130 : s116 (182) = σ (182) := hc120
    have hk131 : s116 (183) = σ (183) := hc121
    have hk132 : s116 (184) = σ (184) := hc122
    exact ra_ireturn rfl (ra_okB hz117) ⟨⟨_, hz117, ⟨hz117o, (by rw [x4stm_head (Iff.mp w1 (by omega))]; exact hz117q)⟩, rfl⟩, ⟨hF128, hk129, hk130, hk131, hk132, (fun a h15 h16 h17 h18 h19 h20 h21 => (he123 a h15 h16 h17 h18 h19 h20 h21)), he124, he125, (by have m_s116 := he126; omega), he127⟩⟩
end
