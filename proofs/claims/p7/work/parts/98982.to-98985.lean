section
/-! T4: what the reference's methods that read a text do (printed by wip/gen/r4.py) -/
section
variable {B : Nat → Int} {bn ps ta ti : Nat} {r : Nat → Int}
theorem s4_249 {n : Nat} {f : Nat → Int32} {d : Nat} {x0 : Int} {σ : ra_V} (hx0 : ra_in x0) (hB : x4TR σ B bn) (hi : 0 ≤ x0) : ra_C (g_Gs n f) g_sh 0 (d + 1) 249 [.index (179), ra_I x0] σ (fun r9 s => r9 = .inl (some (ra_I (B x0.toNat))) ∧ s = σ) := by
  refine ra_enter (nn := 0) mt_249 rfl (Nat.le_of_ble_eq_true rfl) rfl (fun h => absurd h (by decide +kernel)) ?_
  have hB0 := hB
  obtain ⟨b1, b2, b3, b4⟩ := hB0
  refine ra_load rfl rfl rfl rfl ?_
  refine ra_load rfl rfl rfl rfl ?_
  refine ra_getI rfl lk_8_186 (Nat.zero_le _) sh_179 rfl ?_
  have hr1 : ra_in (ra_g σ (179) 12) := (ra_in_g _ _ _)
  refine ra_icge rfl rfl hx0 hr1 (fun h2 => ?_) (fun h2 => ?_)
  · refine ra_iconst rfl ?_
    exact ra_ireturn rfl rfl ⟨(congrArg (fun z => Sum.inl (some (ra_I z))) (by first | exact x4TR_n hB (by omega) | exact x4TR_y hB (by omega) (by omega))), rfl⟩
  · refine ra_load rfl rfl rfl rfl ?_
    refine ra_getR rfl lk_8_31 (Nat.zero_le _) sh_179 rfl ?_
    refine ra_load rfl rfl rfl rfl ?_
    refine ra_iaload rfl sh_187 rfl (by decide) (by first | omega | (unfold ra_in at *; omega)) (by first | omega | (unfold ra_in at *; omega)) ?_
    have hr3 : ra_in (ra_g σ (187) x0.toNat) := (ra_in_g _ _ _)
    refine ra_goto rfl rfl ?_
    exact ra_ireturn rfl rfl ⟨(congrArg (fun z => Sum.inl (some (ra_I z))) (by first | exact x4TR_n hB (by omega) | exact x4TR_y hB (by omega) (by omega))), rfl⟩
theorem l4_250_146 {n : Nat} {f : Nat → Int32} {d : Nat}  {σ : ra_V} (hpn : 0 ≤ ra_g σ 179 17 ∧ ra_g σ 179 17 ≤ ra_g σ 179 12 ∧ ra_g σ 179 12 ≤ 500) (hB : x4TR σ B bn) (hps : ra_g σ 179 17 = (ps : Nat)) (hpl : ps ≤ bn) : ∀ (nn : Nat) (s : ra_V) (hF : Fr (179) (180) σ s) (hk0 : s (187) = σ (187)) (hov : ∀ a, a ≠ 17 → a ≠ 18 → a ≠ 19 → a ≠ 20 → ra_g s 179 a = ra_g σ 179 a) (hnv : 0 ≤ ra_g s 179 18 ∧ ra_g s 179 18 ≤ ra_g s 179 17 ∧ ra_g s 179 17 ≤ ra_g s 179 12 ∧ ra_g s 179 12 ≤ 500 ∧ 0 ≤ ra_g s 179 19 ∧ ra_g s 179 19 ≤ 999 ∧ ra_g σ 179 17 ≤ ra_g s 179 17 ∧ ra_g s 179 20 ≠ 3 ∧ (ra_g s 179 17 - ra_g s 179 18 ≤ 0 → ra_g s 179 19 = 0) ∧ (ra_g s 179 17 - ra_g s 179 18 ≤ 1 → ra_g s 179 19 ≤ 9) ∧ (ra_g s 179 17 - ra_g s 179 18 ≤ 2 → ra_g s 179 19 ≤ 99)) (hs : ra_g s 179 18 = (tx_a B bn ps : Nat) ∧ ra_g s 179 20 = 2 ∧ tx_a B bn ps < bn) (hd : tx_le (B (tx_a B bn ps)) = false ∧ tx_di (B (tx_a B bn ps)) = true) (hw : tx_sp tx_di B bn (ra_g s 179 17).toNat = tx_sp tx_di B bn (tx_a B bn ps)) (hv : ra_g s 179 19 = tx_v B (tx_a B bn ps) (Nat.min 3 ((ra_g s 179 17).toNat - tx_a B bn ps))) (hm : ((501 - ra_g s 179 17 : Int)).toNat < nn), ra_P (g_Gs n f) g_sh 0 (d + 1) g_m_X8_advanceToken 146 [some (.index (179)), none] [] s (fun r9 s => rV r9 ∧ Fr (179) (180) σ s ∧ (∀ a, a ≠ 17 → a ≠ 18 → a ≠ 19 → a ≠ 20 → ra_g s 179 a = ra_g σ 179 a) ∧ (0 ≤ ra_g s 179 18 ∧ ra_g s 179 18 ≤ ra_g s 179 17 ∧ ra_g s 179 17 ≤ ra_g s 179 12 ∧ ra_g s 179 12 ≤ 500 ∧ 0 ≤ ra_g s 179 19 ∧ ra_g s 179 19 ≤ 999) ∧ (ra_g σ 179 17 ≤ ra_g s 179 17 ∧ (ra_g s 179 20 = 3 → ra_g σ 179 17 < ra_g s 179 17)) ∧ x4RTK B bn s (tx_a B bn ps)) := by
  intro nn
  induction nn with
  | zero => intro s hF hk0 hov hnv hs hd hw hv hm; exact absurd hm (Nat.not_lt_zero _)
  | succ nn ih =>
    intro s hF hk0 hov hnv hs hd hw hv hm
    have e12 := hov 12 (by decide) (by decide) (by decide) (by decide)
    have hB0 := hB
    obtain ⟨b1, b2, b3, b4⟩ := hB0
    refine ra_load rfl rfl rfl rfl ?_
    refine ra_load rfl rfl rfl rfl ?_
    refine ra_getI rfl lk_8_192 (Nat.zero_le _) sh_179 rfl ?_
    have hr54 : ra_in (ra_g s (179) 17) := (ra_in_g _ _ _)
    refine ra_cTp (s4_249 hr54 (x4TR_k (by omega) hk0 hB) (by first | assumption | rfl | omega)) rfl (ct_249 rfl lk_8_195 (Or.inl rfl) sh_179 (Nat.le_of_ble_eq_true rfl)) ?_
    have hr56 : ra_in (B (ra_g s (179) 17).toNat) := (x4TR_in (x4TR_k (by omega) hk0 hB))
    refine ra_i2l rfl hr56 ?_
    refine ra_ldc2 (z := 48) rfl lk_8_211 (by decide) ?_
    refine ra_ldc2 (z := 57) rfl lk_8_213 (by decide) ?_
    refine ra_cTp (sp_193 hr56 (by first | omega | (unfold ra_in at *; omega)) (by first | omega | (unfold ra_in at *; omega))) rfl (ct_193 rfl lk_8_63 (Or.inl rfl) (Nat.le_of_ble_eq_true rfl)) ?_
    refine ra_ifeqB rfl rfl (fun h58 => ?_) (fun h58 => ?_)
    · exact ra_return rfl rfl ⟨rfl, ⟨hF, (fun a h17 h18 h19 h20 => (hov a h17 h18 h19 h20)), by omega, by omega, x4rtk_n (by omega) (by rw [← hw, tx_sp_e (x4di_n (by omega))]; omega) (by omega) hd.1 hd.2 (by omega) (by rw [← hw, tx_sp_e (x4di_n (by omega))]; exact hv)⟩⟩
    · have hlt := x4TR_l hB (i := (ra_g s 179 17).toNat) (by omega)
      refine ra_load rfl rfl rfl rfl ?_
      refine ra_getI rfl lk_8_192 (Nat.zero_le _) sh_179 rfl ?_
      have hr59 : ra_in (ra_g s (179) 17) := (ra_in_g _ _ _)
      refine ra_load rfl rfl rfl rfl ?_
      refine ra_getI rfl lk_8_198 (Nat.zero_le _) sh_179 rfl ?_
      have hr60 : ra_in (ra_g s (179) 18) := (ra_in_g _ _ _)
      refine ra_isub rfl ?_
      refine ra_iconst rfl ?_
      refine ra_icge rfl rfl (by first | omega | (unfold ra_in at *; omega)) (by first | omega | (unfold ra_in at *; omega)) (fun h61 => ?_) (fun h61 => ?_)
      · refine ra_load rfl rfl rfl rfl ?_
        refine ra_dup rfl rfl ?_
        refine ra_getI rfl lk_8_192 (Nat.zero_le _) sh_179 rfl ?_
        have hr62 : ra_in (ra_g s (179) 17) := (ra_in_g _ _ _)
        refine ra_iconst rfl ?_
        refine ra_iadd rfl ?_
        refine ra_putI rfl lk_8_192 (Nat.zero_le _) sh_179 rfl rfl ?_
        refine ra_newU (by first | omega | (unfold ra_in at *; omega)) (fun s63 hs63 hp64 hp64o => ?_)
        have hp64_12 := hp64o 12 (by decide)
        have hp64_18 := hp64o 18 (by decide)
        have hp64_19 := hp64o 19 (by decide)
        have hp64_20 := hp64o 20 (by decide)
        have hF65 := Fr_tr (lo := 179) (hi := 180) hF hs63 (by omega)
        have hk66 : s63 (187) = σ (187) := (hs63 (187) (by omega)).trans hk0
        refine ra_goto rfl rfl ?_
        exact ra_weak (by repeat' constructor) (ih s63 hF65 hk66 (fun a h17 h18 h19 h20 => ((hp64o a (by assumption)).trans (hov a h17 h18 h19 h20))) (by omega) (by omega) hd (by rw [show (ra_g s63 179 17).toNat = (ra_g s 179 17).toNat + 1 by omega]; exact (tx_sp_s (by omega) (x4di_y (by omega))).symm.trans hw) (by rw [show (ra_g s63 179 17).toNat - tx_a B bn ps = ((ra_g s 179 17).toNat - tx_a B bn ps) + 1 by omega]; have q := x4tv_n (x := ra_g s 179 19) (by omega) hv; omega) (by first | omega | (unfold ra_in at *; omega)))
      · refine ra_load rfl rfl rfl rfl ?_
        refine ra_bipush rfl (by decide) ?_
        refine ra_load rfl rfl rfl rfl ?_
        refine ra_getI rfl lk_8_201 (Nat.zero_le _) sh_179 rfl ?_
        have hr67 : ra_in (ra_g s (179) 19) := (ra_in_g _ _ _)
        refine ra_imul rfl ?_
        refine ra_load rfl rfl rfl rfl ?_
        refine ra_load rfl rfl rfl rfl ?_
        refine ra_getI rfl lk_8_192 (Nat.zero_le _) sh_179 rfl ?_
        have hr68 : ra_in (ra_g s (179) 17) := (ra_in_g _ _ _)
        refine ra_cTp (s4_249 hr68 (x4TR_k (by omega) hk0 hB) (by first | assumption | rfl | omega)) rfl (ct_249 rfl lk_8_195 (Or.inl rfl) sh_179 (Nat.le_of_ble_eq_true rfl)) ?_
        have hr70 : ra_in (B (ra_g s (179) 17).toNat) := (x4TR_in (x4TR_k (by omega) hk0 hB))
        refine ra_iadd rfl ?_
        refine ra_bipush rfl (by decide) ?_
        refine ra_isub rfl ?_
        refine ra_putI rfl lk_8_201 (Nat.zero_le _) sh_179 rfl rfl ?_
        refine ra_newU (by first | omega | (unfold ra_in at *; omega)) (fun s71 hs71 hp72 hp72o => ?_)
        have hp72_12 := hp72o 12 (by decide)
        have hp72_17 := hp72o 17 (by decide)
        have hp72_18 := hp72o 18 (by decide)
        have hp72_20 := hp72o 20 (by decide)
        have hF73 := Fr_tr (lo := 179) (hi := 180) hF hs71 (by omega)
        have hk74 : s71 (187) = σ (187) := (hs71 (187) (by omega)).trans hk0
        refine ra_load rfl rfl rfl rfl ?_
        refine ra_dup rfl rfl ?_
        refine ra_getI rfl lk_8_192 (Nat.zero_le _) sh_179 rfl ?_
        have hr75 : ra_in (ra_g s71 (179) 17) := (ra_in_g _ _ _)
        refine ra_iconst rfl ?_
        refine ra_iadd rfl ?_
        refine ra_putI rfl lk_8_192 (Nat.zero_le _) sh_179 rfl rfl ?_
        refine ra_newU (by first | omega | (unfold ra_in at *; omega)) (fun s76 hs76 hp77 hp77o => ?_)
        have hp77_12 := hp77o 12 (by decide)
        have hp77_18 := hp77o 18 (by decide)
        have hp77_19 := hp77o 19 (by decide)
        have hp77_20 := hp77o 20 (by decide)
        have hF78 := Fr_tr (lo := 179) (hi := 180) hF73 hs76 (by omega)
        have hk79 : s76 (187) = σ (187) := (hs76 (187) (by omega)).trans hk74
        refine ra_goto rfl rfl ?_
        exact ra_weak (by repeat' constructor) (ih s76 hF78 hk79 (fun a h17 h18 h19 h20 => ((hp77o a (by assumption)).trans ((hp72o a (by assumption)).trans (hov a h17 h18 h19 h20)))) (by omega) (by omega) hd (by rw [show (ra_g s76 179 17).toNat = (ra_g s 179 17).toNat + 1 by omega]; exact (tx_sp_s (by omega) (x4di_y (by omega))).symm.trans hw) (by rw [show (ra_g s76 179 17).toNat - tx_a B bn ps = ((ra_g s 179 17).toNat - tx_a B bn ps) + 1 by omega]; have q := x4tv_y (x := ra_g s 179 19) (by omega) hv; rw [show tx_a B bn ps + ((ra_g s 179 17).toNat - tx_a B bn ps) = (ra_g s 179 17).toNat by omega] at q; omega) (by first | omega | (unfold ra_in at *; omega)))
theorem l4_250_93 {n : Nat} {f : Nat → Int32} {d : Nat}  {σ : ra_V} (hpn : 0 ≤ ra_g σ 179 17 ∧ ra_g σ 179 17 ≤ ra_g σ 179 12 ∧ ra_g σ 179 12 ≤ 500) (hB : x4TR σ B bn) (hps : ra_g σ 179 17 = (ps : Nat)) (hpl : ps ≤ bn) : ∀ (nn : Nat) (s : ra_V) (hF : Fr (179) (180) σ s) (hk0 : s (187) = σ (187)) (hov : ∀ a, a ≠ 17 → a ≠ 18 → a ≠ 19 → a ≠ 20 → ra_g s 179 a = ra_g σ 179 a) (hnv : 0 ≤ ra_g s 179 18 ∧ ra_g s 179 18 ≤ ra_g s 179 17 ∧ ra_g s 179 17 ≤ ra_g s 179 12 ∧ ra_g s 179 12 ≤ 500 ∧ 0 ≤ ra_g s 179 19 ∧ ra_g s 179 19 ≤ 999 ∧ ra_g σ 179 17 ≤ ra_g s 179 17 ∧ ra_g s 179 20 ≠ 3) (hs : ra_g s 179 18 = (tx_a B bn ps : Nat) ∧ ra_g s 179 20 = 1 ∧ tx_a B bn ps < bn) (hl : tx_le (B (tx_a B bn ps)) = true) (hw : tx_sp tx_le B bn (ra_g s 179 17).toNat = tx_sp tx_le B bn (tx_a B bn ps)) (hm : ((501 - ra_g s 179 17 : Int)).toNat < nn), ra_P (g_Gs n f) g_sh 0 (d + 1) g_m_X8_advanceToken 93 [some (.index (179)), none] [] s (fun r9 s => rV r9 ∧ Fr (179) (180) σ s ∧ (∀ a, a ≠ 17 → a ≠ 18 → a ≠ 19 → a ≠ 20 → ra_g s 179 a = ra_g σ 179 a) ∧ (0 ≤ ra_g s 179 18 ∧ ra_g s 179 18 ≤ ra_g s 179 17 ∧ ra_g s 179 17 ≤ ra_g s 179 12 ∧ ra_g s 179 12 ≤ 500 ∧ 0 ≤ ra_g s 179 19 ∧ ra_g s 179 19 ≤ 999) ∧ (ra_g σ 179 17 ≤ ra_g s 179 17 ∧ (ra_g s 179 20 = 3 → ra_g σ 179 17 < ra_g s 179 17)) ∧ x4RTK B bn s (tx_a B bn ps)) := by
  intro nn
  induction nn with
  | zero => intro s hF hk0 hov hnv hs hl hw hm; exact absurd hm (Nat.not_lt_zero _)
  | succ nn ih =>
    intro s hF hk0 hov hnv hs hl hw hm
    have e12 := hov 12 (by decide) (by decide) (by decide) (by decide)
    have hB0 := hB
    obtain ⟨b1, b2, b3, b4⟩ := hB0
    refine ra_load rfl rfl rfl rfl ?_
    refine ra_load rfl rfl rfl rfl ?_
    refine ra_getI rfl lk_8_192 (Nat.zero_le _) sh_179 rfl ?_
    have hr84 : ra_in (ra_g s (179) 17) := (ra_in_g _ _ _)
    refine ra_cTp (s4_249 hr84 (x4TR_k (by omega) hk0 hB) (by first | assumption | rfl | omega)) rfl (ct_249 rfl lk_8_195 (Or.inl rfl) sh_179 (Nat.le_of_ble_eq_true rfl)) ?_
    have hr86 : ra_in (B (ra_g s (179) 17).toNat) := (x4TR_in (x4TR_k (by omega) hk0 hB))
    refine ra_i2l rfl hr86 ?_
    refine ra_ldc2 (z := 97) rfl lk_8_207 (by decide) ?_
    refine ra_ldc2 (z := 122) rfl lk_8_209 (by decide) ?_
    refine ra_cTp (sp_193 hr86 (by first | omega | (unfold ra_in at *; omega)) (by first | omega | (unfold ra_in at *; omega))) rfl (ct_193 rfl lk_8_63 (Or.inl rfl) (Nat.le_of_ble_eq_true rfl)) ?_
    refine ra_ifeqB rfl rfl (fun h88 => ?_) (fun h88 => ?_)
    · exact ra_return rfl rfl ⟨rfl, ⟨hF, (fun a h17 h18 h19 h20 => (hov a h17 h18 h19 h20)), by omega, by omega, x4rtk_w (by omega) (by rw [← hw, tx_sp_e (x4le_n (by omega))]; omega) (by omega) (by omega) hl⟩⟩
    · have hlt := x4TR_l hB (i := (ra_g s 179 17).toNat) (by omega)
      refine ra_load rfl rfl rfl rfl ?_
      refine ra_dup rfl rfl ?_
      refine ra_getI rfl lk_8_192 (Nat.zero_le _) sh_179 rfl ?_
      have hr89 : ra_in (ra_g s (179) 17) := (ra_in_g _ _ _)
      refine ra_iconst rfl ?_
      refine ra_iadd rfl ?_
      refine ra_putI rfl lk_8_192 (Nat.zero_le _) sh_179 rfl rfl ?_
      refine ra_newU (by first | omega | (unfold ra_in at *; omega)) (fun s90 hs90 hp91 hp91o => ?_)
      have hp91_12 := hp91o 12 (by decide)
      have hp91_18 := hp91o 18 (by decide)
      have hp91_19 := hp91o 19 (by decide)
      have hp91_20 := hp91o 20 (by decide)
      have hF92 := Fr_tr (lo := 179) (hi := 180) hF hs90 (by omega)
      have hk93 : s90 (187) = σ (187) := (hs90 (187) (by omega)).trans hk0
      refine ra_goto rfl rfl ?_
      exact ra_weak (by repeat' constructor) (ih s90 hF92 hk93 (fun a h17 h18 h19 h20 => ((hp91o a (by assumption)).trans (hov a h17 h18 h19 h20))) (by omega) (by omega) hl (by rw [show (ra_g s90 179 17).toNat = (ra_g s 179 17).toNat + 1 by omega]; exact (tx_sp_s (by omega) (x4le_y (by omega))).symm.trans hw) (by first | omega | (unfold ra_in at *; omega)))
theorem l4_250_39 {n : Nat} {f : Nat → Int32} {d : Nat}  {σ : ra_V} (hpn : 0 ≤ ra_g σ 179 17 ∧ ra_g σ 179 17 ≤ ra_g σ 179 12 ∧ ra_g σ 179 12 ≤ 500) (hB : x4TR σ B bn) (hps : ra_g σ 179 17 = (ps : Nat)) (hpl : ps ≤ bn) : ∀ (s : ra_V) (hF : Fr (179) (180) σ s) (hk0 : s (187) = σ (187)) (hov : ∀ a, a ≠ 17 → a ≠ 18 → a ≠ 19 → a ≠ 20 → ra_g s 179 a = ra_g σ 179 a) (hnv : 0 ≤ ra_g s 179 17 ∧ ra_g s 179 17 ≤ ra_g s 179 12 ∧ ra_g s 179 12 ≤ 500 ∧ ra_g σ 179 17 ≤ ra_g s 179 17) (hz : tx_a B bn ps = (ra_g s 179 17).toNat), ra_P (g_Gs n f) g_sh 0 (d + 1) g_m_X8_advanceToken 39 [some (.index (179)), none] [] s (fun r9 s => rV r9 ∧ Fr (179) (180) σ s ∧ (∀ a, a ≠ 17 → a ≠ 18 → a ≠ 19 → a ≠ 20 → ra_g s 179 a = ra_g σ 179 a) ∧ (0 ≤ ra_g s 179 18 ∧ ra_g s 179 18 ≤ ra_g s 179 17 ∧ ra_g s 179 17 ≤ ra_g s 179 12 ∧ ra_g s 179 12 ≤ 500 ∧ 0 ≤ ra_g s 179 19 ∧ ra_g s 179 19 ≤ 999) ∧ (ra_g σ 179 17 ≤ ra_g s 179 17 ∧ (ra_g s 179 20 = 3 → ra_g σ 179 17 < ra_g s 179 17)) ∧ x4RTK B bn s (tx_a B bn ps)) := by
    intro s hF hk0 hov hnv hz
    have e12 := hov 12 (by decide) (by decide) (by decide) (by decide)
    have hB0 := hB
    obtain ⟨b1, b2, b3, b4⟩ := hB0
    refine ra_load rfl rfl rfl rfl ?_
    refine ra_load rfl rfl rfl rfl ?_
    refine ra_getI rfl lk_8_192 (Nat.zero_le _) sh_179 rfl ?_
    have hr14 : ra_in (ra_g s (179) 17) := (ra_in_g _ _ _)
    refine ra_putI rfl lk_8_198 (Nat.zero_le _) sh_179 rfl rfl ?_
    refine ra_newU hr14 (fun s15 hs15 hp16 hp16o => ?_)
    have hp16_12 := hp16o 12 (by decide)
    have hp16_17 := hp16o 17 (by decide)
    have hp16_19 := hp16o 19 (by decide)
    have hp16_20 := hp16o 20 (by decide)
    have hF17 := Fr_tr (lo := 179) (hi := 180) hF hs15 (by omega)
    have hk18 : s15 (187) = σ (187) := (hs15 (187) (by omega)).trans hk0
    refine ra_load rfl rfl rfl rfl ?_
    refine ra_load rfl rfl rfl rfl ?_
    refine ra_getI rfl lk_8_192 (Nat.zero_le _) sh_179 rfl ?_
    have hr19 : ra_in (ra_g s15 (179) 17) := (ra_in_g _ _ _)
    refine ra_cTp (s4_249 hr19 (x4TR_k (by omega) hk18 hB) (by first | assumption | rfl | omega)) rfl (ct_249 rfl lk_8_195 (Or.inl rfl) sh_179 (Nat.le_of_ble_eq_true rfl)) ?_
    have hr21 : ra_in (B (ra_g s15 (179) 17).toNat) := (x4TR_in (x4TR_k (by omega) hk18 hB))
    refine ra_store (L' := [_, _]) rfl rfl rfl (Nat.le_of_ble_eq_true rfl) rfl ?_
    refine ra_load rfl rfl rfl rfl ?_
    refine ra_iconst rfl ?_
    refine ra_putI rfl lk_8_201 (Nat.zero_le _) sh_179 rfl rfl ?_
    refine ra_newU (by first | omega | (unfold ra_in at *; omega)) (fun s22 hs22 hp23 hp23o => ?_)
    have hp23_12 := hp23o 12 (by decide)
    have hp23_17 := hp23o 17 (by decide)
    have hp23_18 := hp23o 18 (by decide)
    have hp23_20 := hp23o 20 (by decide)
    have hF24 := Fr_tr (lo := 179) (hi := 180) hF17 hs22 (by omega)
    have hk25 : s22 (187) = σ (187) := (hs22 (187) (by omega)).trans hk18
    refine ra_load rfl rfl rfl rfl ?_
    refine ra_iconst rfl ?_
    refine ra_icne rfl rfl hr21 (by first | omega | (unfold ra_in at *; omega)) (fun h26 => ?_) (fun h26 => ?_)
    · have hlt := x4TR_l hB (i := (ra_g s15 (179) 17).toNat) (by omega)
      refine ra_load rfl rfl rfl rfl ?_
      refine ra_i2l rfl hr21 ?_
      refine ra_ldc2 (z := 97) rfl lk_8_207 (by decide) ?_
      refine ra_ldc2 (z := 122) rfl lk_8_209 (by decide) ?_
      refine ra_cTp (sp_193 hr21 (by first | omega | (unfold ra_in at *; omega)) (by first | omega | (unfold ra_in at *; omega))) rfl (ct_193 rfl lk_8_63 (Or.inl rfl) (Nat.le_of_ble_eq_true rfl)) ?_
      refine ra_ifeqB rfl rfl (fun h28 => ?_) (fun h28 => ?_)
      · refine ra_load rfl rfl rfl rfl ?_
        refine ra_i2l rfl hr21 ?_
        refine ra_ldc2 (z := 48) rfl lk_8_211 (by decide) ?_
        refine ra_ldc2 (z := 57) rfl lk_8_213 (by decide) ?_
        refine ra_cTp (sp_193 hr21 (by first | omega | (unfold ra_in at *; omega)) (by first | omega | (unfold ra_in at *; omega))) rfl (ct_193 rfl lk_8_63 (Or.inl rfl) (Nat.le_of_ble_eq_true rfl)) ?_
        refine ra_ifeqB rfl rfl (fun h30 => ?_) (fun h30 => ?_)
        · refine ra_load rfl rfl rfl rfl ?_
          refine ra_load rfl rfl rfl rfl ?_
          refine ra_bipush rfl (by decide) ?_
          refine ra_icne rfl rfl hr21 (by first | omega | (unfold ra_in at *; omega)) (fun h31 => ?_) (fun h31 => ?_)
          · refine ra_iconst rfl ?_
            refine ra_putI rfl lk_8_204 (Nat.zero_le _) sh_179 rfl rfl ?_
            refine ra_newU (by first | omega | (unfold ra_in at *; omega)) (fun s32 hs32 hp33 hp33o => ?_)
            have hp33_12 := hp33o 12 (by decide)
            have hp33_17 := hp33o 17 (by decide)
            have hp33_18 := hp33o 18 (by decide)
            have hp33_19 := hp33o 19 (by decide)
            have hF34 := Fr_tr (lo := 179) (hi := 180) hF24 hs32 (by omega)
            have hk35 : s32 (187) = σ (187) := (hs32 (187) (by omega)).trans hk25
            refine ra_load rfl rfl rfl rfl ?_
            refine ra_dup rfl rfl ?_
            refine ra_getI rfl lk_8_192 (Nat.zero_le _) sh_179 rfl ?_
            have hr36 : ra_in (ra_g s32 (179) 17) := (ra_in_g _ _ _)
            refine ra_iconst rfl ?_
            refine ra_iadd rfl ?_
            refine ra_putI rfl lk_8_192 (Nat.zero_le _) sh_179 rfl rfl ?_
            refine ra_newU (by first | omega | (unfold ra_in at *; omega)) (fun s37 hs37 hp38 hp38o => ?_)
            have hp38_12 := hp38o 12 (by decide)
            have hp38_18 := hp38o 18 (by decide)
            have hp38_19 := hp38o 19 (by decide)
            have hp38_20 := hp38o 20 (by decide)
            have hF39 := Fr_tr (lo := 179) (hi := 180) hF34 hs37 (by omega)
            have hk40 : s37 (187) = σ (187) := (hs37 (187) (by omega)).trans hk35
            exact ra_return rfl rfl ⟨rfl, ⟨hF39, (fun a h17 h18 h19 h20 => ((hp38o a (by assumption)).trans ((hp33o a (by assumption)).trans ((hp23o a (by assumption)).trans ((hp16o a (by assumption)).trans (hov a h17 h18 h19 h20)))))), by omega, by omega, x4rtk_1 (by omega) (by omega) (by omega) (by rw [show tx_a B bn ps = (ra_g s15 (179) 17).toNat by omega]; exact x4le_n (by omega)) (by rw [show tx_a B bn ps = (ra_g s15 (179) 17).toNat by omega]; exact x4di_n (by omega)) (by rw [show tx_a B bn ps = (ra_g s15 (179) 17).toNat by omega]; constructor <;> intro q <;> omega)⟩⟩
          · refine ra_iconst rfl ?_
            refine ra_goto rfl rfl ?_
            refine ra_putI rfl lk_8_204 (Nat.zero_le _) sh_179 rfl rfl ?_
            refine ra_newU (by first | omega | (unfold ra_in at *; omega)) (fun s41 hs41 hp42 hp42o => ?_)
            have hp42_12 := hp42o 12 (by decide)
            have hp42_17 := hp42o 17 (by decide)
            have hp42_18 := hp42o 18 (by decide)
            have hp42_19 := hp42o 19 (by decide)
            have hF43 := Fr_tr (lo := 179) (hi := 180) hF24 hs41 (by omega)
            have hk44 : s41 (187) = σ (187) := (hs41 (187) (by omega)).trans hk25
            refine ra_load rfl rfl rfl rfl ?_
            refine ra_dup rfl rfl ?_
            refine ra_getI rfl lk_8_192 (Nat.zero_le _) sh_179 rfl ?_
            have hr45 : ra_in (ra_g s41 (179) 17) := (ra_in_g _ _ _)
            refine ra_iconst rfl ?_
            refine ra_iadd rfl ?_
            refine ra_putI rfl lk_8_192 (Nat.zero_le _) sh_179 rfl rfl ?_
            refine ra_newU (by first | omega | (unfold ra_in at *; omega)) (fun s46 hs46 hp47 hp47o => ?_)
            have hp47_12 := hp47o 12 (by decide)
            have hp47_18 := hp47o 18 (by decide)
            have hp47_19 := hp47o 19 (by decide)
            have hp47_20 := hp47o 20 (by decide)
            have hF48 := Fr_tr (lo := 179) (hi := 180) hF43 hs46 (by omega)
            have hk49 : s46 (187) = σ (187) := (hs46 (187) (by omega)).trans hk44
            exact ra_return rfl rfl ⟨rfl, ⟨hF48, (fun a h17 h18 h19 h20 => ((hp47o a (by assumption)).trans ((hp42o a (by assumption)).trans ((hp23o a (by assumption)).trans ((hp16o a (by assumption)).trans (hov a h17 h18 h19 h20)))))), by omega, by omega, x4rtk_1 (by omega) (by omega) (by omega) (by rw [show tx_a B bn ps = (ra_g s15 (179) 17).toNat by omega]; exact x4le_n (by omega)) (by rw [show tx_a B bn ps = (ra_g s15 (179) 17).toNat by omega]; exact x4di_n (by omega)) (by rw [show tx_a B bn ps = (ra_g s15 (179) 17).toNat by omega]; constructor <;> intro q <;> omega)⟩⟩
        · have hd : tx_le (B (tx_a B bn ps)) = false ∧ tx_di (B (tx_a B bn ps)) = true := by rw [show tx_a B bn ps = (ra_g s15 (179) 17).toNat by omega]; exact ⟨x4le_n (by omega), x4di_y (by omega)⟩
          refine ra_load rfl rfl rfl rfl ?_
          refine ra_iconst rfl ?_
          refine ra_putI rfl lk_8_204 (Nat.zero_le _) sh_179 rfl rfl ?_
          refine ra_newU (by first | omega | (unfold ra_in at *; omega)) (fun s50 hs50 hp51 hp51o => ?_)
          have hp51_12 := hp51o 12 (by decide)
          have hp51_17 := hp51o 17 (by decide)
          have hp51_18 := hp51o 18 (by decide)
          have hp51_19 := hp51o 19 (by decide)
          have hF52 := Fr_tr (lo := 179) (hi := 180) hF24 hs50 (by omega)
          have hk53 : s50 (187) = σ (187) := (hs50 (187) (by omega)).trans hk25
          exact ra_weak (by repeat' constructor) (l4_250_146 hpn hB hps hpl _ s50 hF52 hk53 (fun a h17 h18 h19 h20 => ((hp51o a (by assumption)).trans ((hp23o a (by assumption)).trans ((hp16o a (by assumption)).trans (hov a h17 h18 h19 h20))))) (by omega) (by omega) hd (by rw [show (ra_g s50 179 17).toNat = tx_a B bn ps by omega]) (by rw [show (ra_g s50 179 17).toNat - tx_a B bn ps = 0 by omega]; show _ = (0 : Int); omega) (Nat.lt_succ_self _))
      · have hl : tx_le (B (tx_a B bn ps)) = true := by rw [show tx_a B bn ps = (ra_g s15 (179) 17).toNat by omega]; exact x4le_y (by omega)
        refine ra_load rfl rfl rfl rfl ?_
        refine ra_iconst rfl ?_
        refine ra_putI rfl lk_8_204 (Nat.zero_le _) sh_179 rfl rfl ?_
        refine ra_newU (by first | omega | (unfold ra_in at *; omega)) (fun s80 hs80 hp81 hp81o => ?_)
        have hp81_12 := hp81o 12 (by decide)
        have hp81_17 := hp81o 17 (by decide)
        have hp81_18 := hp81o 18 (by decide)
        have hp81_19 := hp81o 19 (by decide)
        have hF82 := Fr_tr (lo := 179) (hi := 180) hF24 hs80 (by omega)
        have hk83 : s80 (187) = σ (187) := (hs80 (187) (by omega)).trans hk25
        exact ra_weak (by repeat' constructor) (l4_250_93 hpn hB hps hpl _ s80 hF82 hk83 (fun a h17 h18 h19 h20 => ((hp81o a (by assumption)).trans ((hp23o a (by assumption)).trans ((hp16o a (by assumption)).trans (hov a h17 h18 h19 h20))))) (by omega) (by omega) hl (by rw [show (ra_g s80 179 17).toNat = tx_a B bn ps by omega]) (Nat.lt_succ_self _))
    · have hbe := x4TR_e hB (i := (ra_g s15 (179) 17).toNat) (by omega)
      refine ra_load rfl rfl rfl rfl ?_
      refine ra_iconst rfl ?_
      refine ra_putI rfl lk_8_204 (Nat.zero_le _) sh_179 rfl rfl ?_
      refine ra_newU (by first | omega | (unfold ra_in at *; omega)) (fun s94 hs94 hp95 hp95o => ?_)
      have hp95_12 := hp95o 12 (by decide)
      have hp95_17 := hp95o 17 (by decide)
      have hp95_18 := hp95o 18 (by decide)
      have hp95_19 := hp95o 19 (by decide)
      have hF96 := Fr_tr (lo := 179) (hi := 180) hF24 hs94 (by omega)
      have hk97 : s94 (187) = σ (187) := (hs94 (187) (by omega)).trans hk25
      refine ra_goto rfl rfl ?_
      exact ra_return rfl rfl ⟨rfl, ⟨hF96, (fun a h17 h18 h19 h20 => ((hp95o a (by assumption)).trans ((hp23o a (by assumption)).trans ((hp16o a (by assumption)).trans (hov a h17 h18 h19 h20))))), by omega, by omega, x4rtk_0 (by omega) (by omega) (by omega) (by omega) (by omega)⟩⟩
theorem l4_250_0 {n : Nat} {f : Nat → Int32} {d : Nat}  {σ : ra_V} (hpn : 0 ≤ ra_g σ 179 17 ∧ ra_g σ 179 17 ≤ ra_g σ 179 12 ∧ ra_g σ 179 12 ≤ 500) (hB : x4TR σ B bn) (hps : ra_g σ 179 17 = (ps : Nat)) (hpl : ps ≤ bn) : ∀ (nn : Nat) (s : ra_V) (hF : Fr (179) (180) σ s) (hk0 : s (187) = σ (187)) (hov : ∀ a, a ≠ 17 → a ≠ 18 → a ≠ 19 → a ≠ 20 → ra_g s 179 a = ra_g σ 179 a) (hnv : 0 ≤ ra_g s 179 17 ∧ ra_g s 179 17 ≤ ra_g s 179 12 ∧ ra_g s 179 12 ≤ 500 ∧ ra_g σ 179 17 ≤ ra_g s 179 17) (ha : tx_a B bn (ra_g s 179 17).toNat = tx_a B bn ps) (hm : ((501 - ra_g s 179 17 : Int)).toNat < nn), ra_P (g_Gs n f) g_sh 0 (d + 1) g_m_X8_advanceToken 0 [some (.index (179)), none] [] s (fun r9 s => rV r9 ∧ Fr (179) (180) σ s ∧ (∀ a, a ≠ 17 → a ≠ 18 → a ≠ 19 → a ≠ 20 → ra_g s 179 a = ra_g σ 179 a) ∧ (0 ≤ ra_g s 179 18 ∧ ra_g s 179 18 ≤ ra_g s 179 17 ∧ ra_g s 179 17 ≤ ra_g s 179 12 ∧ ra_g s 179 12 ≤ 500 ∧ 0 ≤ ra_g s 179 19 ∧ ra_g s 179 19 ≤ 999) ∧ (ra_g σ 179 17 ≤ ra_g s 179 17 ∧ (ra_g s 179 20 = 3 → ra_g σ 179 17 < ra_g s 179 17)) ∧ x4RTK B bn s (tx_a B bn ps)) := by
  intro nn
  induction nn with
  | zero => intro s hF hk0 hov hnv ha hm; exact absurd hm (Nat.not_lt_zero _)
  | succ nn ih =>
    intro s hF hk0 hov hnv ha hm
    have e12 := hov 12 (by decide) (by decide) (by decide) (by decide)
    have hB0 := hB
    obtain ⟨b1, b2, b3, b4⟩ := hB0
    refine ra_load rfl rfl rfl rfl ?_
    refine ra_load rfl rfl rfl rfl ?_
    refine ra_getI rfl lk_8_192 (Nat.zero_le _) sh_179 rfl ?_
    have hr1 : ra_in (ra_g s (179) 17) := (ra_in_g _ _ _)
    refine ra_cTp (s4_249 hr1 (x4TR_k (by omega) hk0 hB) (by first | assumption | rfl | omega)) rfl (ct_249 rfl lk_8_195 (Or.inl rfl) sh_179 (Nat.le_of_ble_eq_true rfl)) ?_
    have hr3 : ra_in (B (ra_g s (179) 17).toNat) := (x4TR_in (x4TR_k (by omega) hk0 hB))
    refine ra_bipush rfl (by decide) ?_
    refine ra_iceq rfl rfl hr3 (by first | omega | (unfold ra_in at *; omega)) (fun h4 => ?_) (fun h4 => ?_)
    · have hlt := x4TR_l hB (i := (ra_g s 179 17).toNat) (by omega)
      refine ra_load rfl rfl rfl rfl ?_
      refine ra_dup rfl rfl ?_
      refine ra_getI rfl lk_8_192 (Nat.zero_le _) sh_179 rfl ?_
      have hr5 : ra_in (ra_g s (179) 17) := (ra_in_g _ _ _)
      refine ra_iconst rfl ?_
      refine ra_iadd rfl ?_
      refine ra_putI rfl lk_8_192 (Nat.zero_le _) sh_179 rfl rfl ?_
      refine ra_newU (by first | omega | (unfold ra_in at *; omega)) (fun s6 hs6 hp7 hp7o => ?_)
      have hp7_12 := hp7o 12 (by decide)
      have hp7_18 := hp7o 18 (by decide)
      have hp7_19 := hp7o 19 (by decide)
      have hp7_20 := hp7o 20 (by decide)
      have hF8 := Fr_tr (lo := 179) (hi := 180) hF hs6 (by omega)
      have hk9 : s6 (187) = σ (187) := (hs6 (187) (by omega)).trans hk0
      refine ra_goto rfl rfl ?_
      exact ra_weak (by repeat' constructor) (ih s6 hF8 hk9 (fun a h17 h18 h19 h20 => ((hp7o a (by assumption)).trans (hov a h17 h18 h19 h20))) (by omega) (by rw [show (ra_g s6 179 17).toNat = (ra_g s 179 17).toNat + 1 by omega]; exact (tx_sp_s (by omega) (x4bl_y (by omega))).symm.trans ha) (by first | omega | (unfold ra_in at *; omega)))
    · refine ra_load rfl rfl rfl rfl ?_
      refine ra_load rfl rfl rfl rfl ?_
      refine ra_getI rfl lk_8_192 (Nat.zero_le _) sh_179 rfl ?_
      have hr10 : ra_in (ra_g s (179) 17) := (ra_in_g _ _ _)
      refine ra_cTp (s4_249 hr10 (x4TR_k (by omega) hk0 hB) (by first | assumption | rfl | omega)) rfl (ct_249 rfl lk_8_195 (Or.inl rfl) sh_179 (Nat.le_of_ble_eq_true rfl)) ?_
      have hr12 : ra_in (B (ra_g s (179) 17).toNat) := (x4TR_in (x4TR_k (by omega) hk0 hB))
      refine ra_bipush rfl (by decide) ?_
      refine ra_icne rfl rfl hr12 (by first | omega | (unfold ra_in at *; omega)) (fun h13 => ?_) (fun h13 => ?_)
      · exact ra_weak (by repeat' constructor) (l4_250_39 hpn hB hps hpl s hF hk0 (fun a h17 h18 h19 h20 => (hov a h17 h18 h19 h20)) (by omega) (ha.symm.trans (tx_sp_e (x4bl_n (by omega) (by omega)))))
      · have hlt := x4TR_l hB (i := (ra_g s 179 17).toNat) (by omega)
        refine ra_load rfl rfl rfl rfl ?_
        refine ra_dup rfl rfl ?_
        refine ra_getI rfl lk_8_192 (Nat.zero_le _) sh_179 rfl ?_
        have hr98 : ra_in (ra_g s (179) 17) := (ra_in_g _ _ _)
        refine ra_iconst rfl ?_
        refine ra_iadd rfl ?_
        refine ra_putI rfl lk_8_192 (Nat.zero_le _) sh_179 rfl rfl ?_
        refine ra_newU (by first | omega | (unfold ra_in at *; omega)) (fun s99 hs99 hp100 hp100o => ?_)
        have hp100_12 := hp100o 12 (by decide)
        have hp100_18 := hp100o 18 (by decide)
        have hp100_19 := hp100o 19 (by decide)
        have hp100_20 := hp100o 20 (by decide)
        have hF101 := Fr_tr (lo := 179) (hi := 180) hF hs99 (by omega)
        have hk102 : s99 (187) = σ (187) := (hs99 (187) (by omega)).trans hk0
        refine ra_goto rfl rfl ?_
        exact ra_weak (by repeat' constructor) (ih s99 hF101 hk102 (fun a h17 h18 h19 h20 => ((hp100o a (by assumption)).trans (hov a h17 h18 h19 h20))) (by omega) (by rw [show (ra_g s99 179 17).toNat = (ra_g s 179 17).toNat + 1 by omega]; exact (tx_sp_s (by omega) (x4bl_y (by omega))).symm.trans ha) (by first | omega | (unfold ra_in at *; omega)))
theorem s4_250 {n : Nat} {f : Nat → Int32} {d : Nat}  {σ : ra_V} (hpn : 0 ≤ ra_g σ 179 17 ∧ ra_g σ 179 17 ≤ ra_g σ 179 12 ∧ ra_g σ 179 12 ≤ 500) (hB : x4TR σ B bn) (hps : ra_g σ 179 17 = (ps : Nat)) (hpl : ps ≤ bn) : ra_C (g_Gs n f) g_sh 0 (d + 2) 250 [.index (179)] σ (fun r9 s => rV r9 ∧ Fr (179) (180) σ s ∧ (∀ a, a ≠ 17 → a ≠ 18 → a ≠ 19 → a ≠ 20 → ra_g s 179 a = ra_g σ 179 a) ∧ (0 ≤ ra_g s 179 18 ∧ ra_g s 179 18 ≤ ra_g s 179 17 ∧ ra_g s 179 17 ≤ ra_g s 179 12 ∧ ra_g s 179 12 ≤ 500 ∧ 0 ≤ ra_g s 179 19 ∧ ra_g s 179 19 ≤ 999) ∧ (ra_g σ 179 17 ≤ ra_g s 179 17 ∧ (ra_g s 179 20 = 3 → ra_g σ 179 17 < ra_g s 179 17)) ∧ x4RTK B bn s (tx_a B bn ps)) := by
  refine ra_enter (nn := 1) mt_250 rfl (Nat.le_of_ble_eq_true rfl) rfl (fun h => absurd h (by decide +kernel)) ?_
  have hB0 := hB
  obtain ⟨b1, b2, b3, b4⟩ := hB0
  exact ra_weak (by repeat' constructor) (l4_250_0 hpn hB hps hpl _ σ Fr_rf rfl (fun a h17 h18 h19 h20 => rfl) (by omega) (by rw [show (ra_g σ 179 17).toNat = ps by omega]) (Nat.lt_succ_self _))
end
end
section
/-! T4: what the reference's methods that read a text do (printed by wip/gen/r4.py) -/
section
variable {B : Nat → Int} {bn ps ta ti : Nat} {r : Nat → Int}
theorem s4_252 {n : Nat} {f : Nat → Int32} {d : Nat} {x0 : Int} {σ : ra_V} (hx0 : ra_in x0) : ra_C (g_Gs n f) g_sh 0 (d + 1) 252 [.index (179), ra_I x0] σ (fun r9 s => (∃ z : Int, (z = 0 ∨ z = 1) ∧ (z = 0) ∧ r9 = .inl (some (ra_I z))) ∧ Fr (179) (180) σ s ∧ (∀ a, a ≠ 15 → a ≠ 16 → ra_g s 179 a = ra_g σ 179 a) ∧ (ra_g σ 179 15 = 0 → ra_g s 179 15 = x0 ∧ ra_g s 179 16 = ra_g σ 179 18)) := by
  refine ra_enter (nn := 0) mt_252 rfl (Nat.le_of_ble_eq_true rfl) rfl (fun h => absurd h (by decide +kernel)) ?_
  refine ra_load rfl rfl rfl rfl ?_
  refine ra_getI rfl lk_8_215 (Nat.zero_le _) sh_179 rfl ?_
  have hr1 : ra_in (ra_g σ (179) 15) := (ra_in_g _ _ _)
  refine ra_ifne rfl rfl hr1 (fun h2 => ?_) (fun h2 => ?_)
  · refine ra_iconst rfl ?_
    exact ra_ireturn rfl (ra_okB (Or.inl rfl)) ⟨⟨_, (Or.inl rfl), rfl, rfl⟩, ⟨Fr_rf, (fun a h15 h16 => rfl), fun q => by omega⟩⟩
  · refine ra_load rfl rfl rfl rfl ?_
    refine ra_load rfl rfl rfl rfl ?_
    refine ra_putI rfl lk_8_215 (Nat.zero_le _) sh_179 rfl rfl ?_
    refine ra_newU hx0 (fun s3 hs3 hp4 hp4o => ?_)
    have hp4_16 := hp4o 16 (by decide)
    have hp4_18 := hp4o 18 (by decide)
    have hF5 := Fr_tr (lo := 179) (hi := 180) Fr_rf hs3 (by omega)
    refine ra_load rfl rfl rfl rfl ?_
    refine ra_load rfl rfl rfl rfl ?_
    refine ra_getI rfl lk_8_198 (Nat.zero_le _) sh_179 rfl ?_
    have hr6 : ra_in (ra_g s3 (179) 18) := (ra_in_g _ _ _)
    refine ra_putI rfl lk_8_218 (Nat.zero_le _) sh_179 rfl rfl ?_
    refine ra_newU hr6 (fun s7 hs7 hp8 hp8o => ?_)
    have hp8_15 := hp8o 15 (by decide)
    have hp8_18 := hp8o 18 (by decide)
    have hF9 := Fr_tr (lo := 179) (hi := 180) hF5 hs7 (by omega)
    refine ra_iconst rfl ?_
    exact ra_ireturn rfl (ra_okB (Or.inl rfl)) ⟨⟨_, (Or.inl rfl), rfl, rfl⟩, ⟨hF9, (fun a h15 h16 => ((hp8o a h16).trans (hp4o a h15))), fun q => by omega⟩⟩
theorem s4_254 {n : Nat} {f : Nat → Int32} {d : Nat} {x0 : Int} {x1 : Int} {σ : ra_V} (hx0 : ra_in x0) (hx1 : ra_in x1) (hpi : 0 ≤ ra_g σ 179 18 ∧ ra_g σ 179 18 ≤ ra_g σ 179 17 ∧ ra_g σ 179 17 ≤ ra_g σ 179 12 ∧ ra_g σ 179 12 ≤ 500) (hK : x4RTK B bn σ (tx_a B bn ti)) (he0 : ra_g σ 179 15 = 0) : ra_C (g_Gs n f) g_sh 0 (d + 2) 254 [.index (179), ra_I x0, ra_I x1] σ (fun r9 s => (∃ z : Int, (z = 0 ∨ z = 1) ∧ ((z = 1 → (x0 ≤ ra_g σ 179 19 ∧ ra_g σ 179 19 ≤ x1)) ∧ x4RNM B bn σ s z ti x0 x1) ∧ r9 = .inl (some (ra_I z))) ∧ Fr (179) (180) σ s ∧ (∀ a, a ≠ 15 → a ≠ 16 → ra_g s 179 a = ra_g σ 179 a)) := by
  refine ra_enter (nn := 0) mt_254 rfl (Nat.le_of_ble_eq_true rfl) rfl (fun h => absurd h (by decide +kernel)) ?_
  refine ra_load rfl rfl rfl rfl ?_
  refine ra_getI rfl lk_8_204 (Nat.zero_le _) sh_179 rfl ?_
  have hr1 : ra_in (ra_g σ (179) 20) := (ra_in_g _ _ _)
  refine ra_iconst rfl ?_
  refine ra_icne rfl rfl hr1 (by first | omega | (unfold ra_in at *; omega)) (fun h2 => ?_) (fun h2 => ?_)
  · refine ra_load rfl rfl rfl rfl ?_
    refine ra_iconst rfl ?_
    refine ra_cQP (s4_252 (by first | omega | (unfold ra_in at *; omega))) rfl (ct_252 rfl lk_8_233 (Or.inl rfl) sh_179 (Nat.le_of_ble_eq_true rfl)) (fun z4 s3 hz4 hz4p hs3 => ?_)
    obtain ⟨hf5, he6, he7⟩ := hs3
    have hF8 := Fr_tr (lo := 179) (hi := 180) Fr_rf hf5 (by omega)
    exact ra_ireturn rfl (ra_okB hz4) ⟨⟨_, hz4, ⟨(fun q => by omega), (by first | (exfalso; omega) | exact x4rn_1 hK (by omega) (by omega) (by have q := he7 he0; omega) | exact x4rn_2 hK (by omega) (by omega) (by omega) (by have q := he7 he0; omega))⟩, rfl⟩, ⟨hF8, he6⟩⟩
  · refine ra_load rfl rfl rfl rfl ?_
    refine ra_cTp (sp_251 (by first | assumption | rfl | omega)) rfl (ct_251 rfl lk_8_221 (Or.inl rfl) sh_179 (Nat.le_of_ble_eq_true rfl)) ?_
    have hr10 : ra_in (ra_g σ 179 17 - ra_g σ 179 18) := (by unfold ra_in; omega)
    refine ra_iconst rfl ?_
    refine ra_icle rfl rfl hr10 (by first | omega | (unfold ra_in at *; omega)) (fun h11 => ?_) (fun h11 => ?_)
    · refine ra_load rfl rfl rfl rfl ?_
      refine ra_getI rfl lk_8_201 (Nat.zero_le _) sh_179 rfl ?_
      have hr12 : ra_in (ra_g σ (179) 19) := (ra_in_g _ _ _)
      refine ra_i2l rfl hr12 ?_
      refine ra_load rfl rfl rfl rfl ?_
      refine ra_i2l rfl hx0 ?_
      refine ra_load rfl rfl rfl rfl ?_
      refine ra_i2l rfl hx1 ?_
      refine ra_cTp (sp_193 hr12 hx0 hx1) rfl (ct_193 rfl lk_8_63 (Or.inl rfl) (Nat.le_of_ble_eq_true rfl)) ?_
      refine ra_ifneB rfl rfl (fun h14 => ?_) (fun h14 => ?_)
      · refine ra_iconst rfl ?_
        refine ra_goto rfl rfl ?_
        exact ra_ireturn rfl (ra_okB (Or.inr rfl)) ⟨⟨_, (Or.inr rfl), ⟨(fun q => by omega), (x4rn_y hK (by omega) (by omega) rfl ⟨he0, rfl⟩)⟩, rfl⟩, ⟨Fr_rf, (fun _ _ _ => rfl)⟩⟩
      · refine ra_load rfl rfl rfl rfl ?_
        refine ra_iconst rfl ?_
        refine ra_cQP (s4_252 (by first | omega | (unfold ra_in at *; omega))) rfl (ct_252 rfl lk_8_233 (Or.inl rfl) sh_179 (Nat.le_of_ble_eq_true rfl)) (fun z16 s15 hz16 hz16p hs15 => ?_)
        obtain ⟨hf17, he18, he19⟩ := hs15
        have hF20 := Fr_tr (lo := 179) (hi := 180) Fr_rf hf17 (by omega)
        refine ra_ifeq rfl rfl (ra_in01 hz16) (fun h21 => ?_) (fun h21 => ?_)
        · refine ra_iconst rfl ?_
          exact ra_ireturn rfl (ra_okB (Or.inl rfl)) ⟨⟨_, (Or.inl rfl), ⟨(fun q => by omega), (by first | (exfalso; omega) | exact x4rn_1 hK (by omega) (by omega) (by have q := he19 he0; omega) | exact x4rn_2 hK (by omega) (by omega) (by omega) (by have q := he19 he0; omega))⟩, rfl⟩, ⟨hF20, he18⟩⟩
        · refine ra_iconst rfl ?_
          refine ra_goto rfl rfl ?_
          exact ra_ireturn rfl (ra_okB (Or.inr rfl)) ⟨⟨_, (Or.inr rfl), ⟨(fun q => by omega), (by first | (exfalso; omega) | exact x4rn_1 hK (by omega) (by omega) (by have q := he19 he0; omega) | exact x4rn_2 hK (by omega) (by omega) (by omega) (by have q := he19 he0; omega))⟩, rfl⟩, ⟨hF20, he18⟩⟩
    · refine ra_load rfl rfl rfl rfl ?_
      refine ra_iconst rfl ?_
      refine ra_cQP (s4_252 (by first | omega | (unfold ra_in at *; omega))) rfl (ct_252 rfl lk_8_233 (Or.inl rfl) sh_179 (Nat.le_of_ble_eq_true rfl)) (fun z23 s22 hz23 hz23p hs22 => ?_)
      obtain ⟨hf24, he25, he26⟩ := hs22
      have hF27 := Fr_tr (lo := 179) (hi := 180) Fr_rf hf24 (by omega)
      exact ra_ireturn rfl (ra_okB hz23) ⟨⟨_, hz23, ⟨(fun q => by omega), (by first | (exfalso; omega) | exact x4rn_1 hK (by omega) (by omega) (by have q := he26 he0; omega) | exact x4rn_2 hK (by omega) (by omega) (by omega) (by have q := he26 he0; omega))⟩, rfl⟩, ⟨hF27, he25⟩⟩
theorem s4_255 {n : Nat} {f : Nat → Int32} {d : Nat} {x0 : Int} {x1 : Int} {x2 : Int} {σ : ra_V} (hx0 : ra_in x0) (hx1 : ra_in x1) (hx2 : ra_in x2) (hpt : 0 ≤ ra_g σ 179 18 ∧ ra_g σ 179 18 ≤ ra_g σ 179 17 ∧ ra_g σ 179 17 ≤ ra_g σ 179 12 ∧ ra_g σ 179 12 ≤ 500 ∧ 0 ≤ ra_g σ 179 19 ∧ ra_g σ 179 19 ≤ 999) (hat : 0 ≤ x0 ∧ x0 < 4) (hB : x4TR σ B bn) (hK : x4RTK B bn σ (tx_a B bn ti)) (he0 : ra_g σ 179 15 = 0) : ra_C (g_Gs n f) g_sh 0 (d + 3) 255 [.index (179), ra_I x0, ra_I x1, ra_I x2] σ (fun r9 s => (∃ z : Int, (z = 0 ∨ z = 1) ∧ ((z = 1 → (x1 ≤ ra_g s 188 x0.toNat ∧ ra_g s 188 x0.toNat ≤ x2 ∧ ra_g s 188 x0.toNat = ra_g σ 179 19 ∧ (ra_g s 179 20 = 3 → ra_g σ 179 17 < ra_g s 179 17))) ∧ x4RTA B bn σ s z ti x0.toNat x1 x2) ∧ r9 = .inl (some (ra_I z))) ∧ Fr (179) (189) σ s ∧ s (180) = σ (180) ∧ s (181) = σ (181) ∧ s (182) = σ (182) ∧ s (183) = σ (183) ∧ s (184) = σ (184) ∧ (∀ a, a ≠ 15 → a ≠ 16 → a ≠ 17 → a ≠ 18 → a ≠ 19 → a ≠ 20 → ra_g s 179 a = ra_g σ 179 a) ∧ (∀ a, a ≠ x0.toNat → ra_g s 188 a = ra_g σ 188 a) ∧ (0 ≤ ra_g s 179 18 ∧ ra_g s 179 18 ≤ ra_g s 179 17 ∧ ra_g s 179 17 ≤ ra_g s 179 12 ∧ ra_g s 179 12 ≤ 500 ∧ 0 ≤ ra_g s 179 19 ∧ ra_g s 179 19 ≤ 999) ∧ ra_g σ 179 17 ≤ ra_g s 179 17 ∧ s (187) = σ (187)) := by
  refine ra_enter (nn := 0) mt_255 rfl (Nat.le_of_ble_eq_true rfl) rfl (fun h => absurd h (by decide +kernel)) ?_
  refine ra_load rfl rfl rfl rfl ?_
  refine ra_load rfl rfl rfl rfl ?_
  refine ra_load rfl rfl rfl rfl ?_
  refine ra_cQPs (s4_254 hx1 hx2 (by first | assumption | rfl | omega) (by first | assumption | rfl | omega) (by first | assumption | rfl | omega)) rfl (ct_254 rfl lk_8_236 (Or.inl rfl) sh_179 (Nat.le_of_ble_eq_true rfl)) (fun z2 s1 hz2 hz2p hs1 => ?_)
  have hz2o := hz2p.1
  have hz2q := hz2p.2
  obtain ⟨hf3, he4⟩ := hs1
  have hF5 := Fr_tr (lo := 179) (hi := 189) Fr_rf hf3 (by omega)
  have hk6 : s1 (180) = σ (180) := (hf3 (180) (by omega))
  have hk7 : s1 (181) = σ (181) := (hf3 (181) (by omega))
  have hk8 : s1 (182) = σ (182) := (hf3 (182) (by omega))
  have hk9 : s1 (183) = σ (183) := (hf3 (183) (by omega))
  have hk10 : s1 (184) = σ (184) := (hf3 (184) (by omega))
  have hk11 : s1 (187) = σ (187) := (hf3 (187) (by omega))
  refine ra_ifne rfl rfl (ra_in01 hz2) (fun h12 => ?_) (fun h12 => ?_)
  · refine ra_load rfl rfl rfl rfl ?_
    refine ra_getR rfl lk_8_38 (Nat.zero_le _) sh_179 rfl ?_
    refine ra_load rfl rfl rfl rfl ?_
    refine ra_load rfl rfl rfl rfl ?_
    refine ra_getI rfl lk_8_201 (Nat.zero_le _) sh_179 rfl ?_
    have hr13 : ra_in (ra_g s1 (179) 19) := (ra_in_g _ _ _)
    refine ra_iastore rfl sh_188 rfl (by decide) (by first | omega | (unfold ra_in at *; omega)) (by first | omega | (unfold ra_in at *; omega)) ?_
    refine ra_newR hr13 (fun s14 hs14 hs14v hs14o => ?_)
    have hF15 := Fr_tr (lo := 179) (hi := 189) hF5 hs14 (by omega)
    have hk16 : s14 (180) = σ (180) := (hs14 (180) (by omega)).trans hk6
    have hk17 : s14 (181) = σ (181) := (hs14 (181) (by omega)).trans hk7
    have hk18 : s14 (182) = σ (182) := (hs14 (182) (by omega)).trans hk8
    have hk19 : s14 (183) = σ (183) := (hs14 (183) (by omega)).trans hk9
    have hk20 : s14 (184) = σ (184) := (hs14 (184) (by omega)).trans hk10
    have hk21 : s14 (187) = σ (187) := (hs14 (187) (by omega)).trans hk11
    refine ra_load rfl rfl rfl rfl ?_
    refine ra_cV (s4_250 (by have q := (pt_e (ra_gk (hs14 179 (by omega))) (ra_gk (hs14 179 (by omega))) (ra_gk (hs14 179 (by omega))) (ra_gk (hs14 179 (by omega))) (pt_e (he4 12 (by decide) (by decide)) (he4 17 (by decide) (by decide)) (he4 18 (by decide) (by decide)) (he4 19 (by decide) (by decide)) hpt)); omega) (x4TR_k ((ra_gk (hs14 179 (by omega))).trans (he4 12 (by decide) (by decide))) ((hs14 (187) (by omega)).trans (hf3 (187) (by omega))) hB) (show ra_g s14 179 17 = ((x4tx_n B bn ti : Nat) : Int) from (((ra_gk (hs14 179 (by omega))).trans (he4 17 (by decide) (by decide)))).trans hK.2.1) (x4RTK_n hK)) rfl (ct_250 rfl lk_8_240 (Or.inl rfl) sh_179 (Nat.le_of_ble_eq_true rfl)) (fun s22 hs22 => ?_)
    obtain ⟨hf23, he24, he25, he26, he27⟩ := hs22
    have hF28 := Fr_tr (lo := 179) (hi := 189) hF15 hf23 (by omega)
    have hk29 : s22 (180) = σ (180) := (hf23 (180) (by omega)).trans hk16
    have hk30 : s22 (181) = σ (181) := (hf23 (181) (by omega)).trans hk17
    have hk31 : s22 (182) = σ (182) := (hf23 (182) (by omega)).trans hk18
    have hk32 : s22 (183) = σ (183) := (hf23 (183) (by omega)).trans hk19
    have hk33 : s22 (184) = σ (184) := (hf23 (184) (by omega)).trans hk20
    have hk34 : s22 (187) = σ (187) := (hf23 (187) (by omega)).trans hk21
    refine ra_iconst rfl ?_
    exact ra_ireturn rfl (ra_okB (Or.inr rfl)) ⟨⟨_, (Or.inr rfl), ⟨(fun _ => by have m_s1 : ra_g s1 179 17 = ra_g σ 179 17 := (he4 17 (by decide) (by decide)); have k_s1 : ra_g s1 179 20 = ra_g σ 179 20 := (he4 20 (by decide) (by decide)); have m_s14 : ra_g s14 179 17 = ra_g s1 179 17 := (ra_gk (hs14 179 (by omega))); have k_s14 : ra_g s14 179 20 = ra_g s1 179 20 := (ra_gk (hs14 179 (by omega))); have m_s22 := he26.1; have m_a := he26.2; have a1 := he4 19 (by decide) (by decide); have a2 : ra_g s22 188 x0.toNat = ra_g s14 188 x0.toNat := ra_gk (hf23 188 (by omega)); have a3 := hs14v; have a4 := hz2o (by omega); exact ⟨by omega, by omega, by omega, fun q => by have := m_a q; omega⟩), (x4ta_y hz2q (by omega) rfl ((ra_gk (hf23 188 (by omega))).trans (hs14v.trans (he4 19 (by decide) (by decide)))) he27 ⟨((he24 15 (by decide) (by decide) (by decide) (by decide)).trans (ra_gk (hs14 179 (by omega)))), ((he24 16 (by decide) (by decide) (by decide) (by decide)).trans (ra_gk (hs14 179 (by omega))))⟩)⟩, rfl⟩, ⟨hF28, hk29, hk30, hk31, hk32, hk33, (fun a h15 h16 h17 h18 h19 h20 => ((he24 a h17 h18 h19 h20).trans ((ra_gk (hs14 179 (by omega))).trans (he4 a h15 h16)))), (fun a h => (ra_gk (hf23 188 (by omega))).trans ((hs14o a h).trans (ra_gk (hf3 188 (by omega))))), he25, (by have m_s1 : ra_g s1 179 17 = ra_g σ 179 17 := (he4 17 (by decide) (by decide)); have k_s1 : ra_g s1 179 20 = ra_g σ 179 20 := (he4 20 (by decide) (by decide)); have m_s14 : ra_g s14 179 17 = ra_g s1 179 17 := (ra_gk (hs14 179 (by omega))); have k_s14 : ra_g s14 179 20 = ra_g s1 179 20 := (ra_gk (hs14 179 (by omega))); have m_s22 := he26.1; omega), ((hf23 (187) (by omega)).trans ((hs14 (187) (by omega)).trans (hf3 (187) (by omega))))⟩⟩
  · refine ra_iconst rfl ?_
    exact ra_ireturn rfl (ra_okB (Or.inl rfl)) ⟨⟨_, (Or.inl rfl), ⟨(fun q => absurd q (by decide)), (x4ta_n hz2q (by omega) rfl)⟩, rfl⟩, ⟨hF5, hk6, hk7, hk8, hk9, hk10, (fun a h15 h16 h17 h18 h19 h20 => (he4 a h15 h16)), (fun a h => ra_gk (hf3 188 (by omega))), (pt_e (he4 12 (by decide) (by decide)) (he4 17 (by decide) (by decide)) (he4 18 (by decide) (by decide)) (he4 19 (by decide) (by decide)) hpt), (by have m_s1 : ra_g s1 179 17 = ra_g σ 179 17 := (he4 17 (by decide) (by decide)); have k_s1 : ra_g s1 179 20 = ra_g σ 179 20 := (he4 20 (by decide) (by decide)); omega), (hf3 (187) (by omega))⟩⟩
theorem s4_260 {n : Nat} {f : Nat → Int32} {d : Nat}  {σ : ra_V} (hpt : 0 ≤ ra_g σ 179 18 ∧ ra_g σ 179 18 ≤ ra_g σ 179 17 ∧ ra_g σ 179 17 ≤ ra_g σ 179 12 ∧ ra_g σ 179 12 ≤ 500 ∧ 0 ≤ ra_g σ 179 19 ∧ ra_g σ 179 19 ≤ 999) (hB : x4TR σ B bn) (hK : x4RTK B bn σ (tx_a B bn ti)) (he0 : ra_g σ 179 15 = 0) : ra_C (g_Gs n f) g_sh 0 (d + 3) 260 [.index (179)] σ (fun r9 s => (∃ z : Int, (z = 0 ∨ z = 1) ∧ ((z = 1 → ra_g σ 179 20 = 3) ∧ x4RSE B bn σ s z ti) ∧ r9 = .inl (some (ra_I z))) ∧ Fr (179) (180) σ s ∧ (∀ a, a ≠ 15 → a ≠ 16 → a ≠ 17 → a ≠ 18 → a ≠ 19 → a ≠ 20 → ra_g s 179 a = ra_g σ 179 a) ∧ (0 ≤ ra_g s 179 18 ∧ ra_g s 179 18 ≤ ra_g s 179 17 ∧ ra_g s 179 17 ≤ ra_g s 179 12 ∧ ra_g s 179 12 ≤ 500 ∧ 0 ≤ ra_g s 179 19 ∧ ra_g s 179 19 ≤ 999) ∧ ra_g σ 179 17 ≤ ra_g s 179 17) := by
  refine ra_enter (nn := 0) mt_260 rfl (Nat.le_of_ble_eq_true rfl) rfl (fun h => absurd h (by decide +kernel)) ?_
  refine ra_load rfl rfl rfl rfl ?_
  refine ra_getI rfl lk_8_204 (Nat.zero_le _) sh_179 rfl ?_
  have hr1 : ra_in (ra_g σ (179) 20) := (ra_in_g _ _ _)
  refine ra_iconst rfl ?_
  refine ra_iceq rfl rfl hr1 (by first | omega | (unfold ra_in at *; omega)) (fun h2 => ?_) (fun h2 => ?_)
  · refine ra_load rfl rfl rfl rfl ?_
    refine ra_cV (s4_250 (by omega) hB (show ra_g σ 179 17 = ((x4tx_n B bn ti : Nat) : Int) from (rfl).trans hK.2.1) (x4RTK_n hK)) rfl (ct_250 rfl lk_8_240 (Or.inl rfl) sh_179 (Nat.le_of_ble_eq_true rfl)) (fun s3 hs3 => ?_)
    obtain ⟨hf4, he5, he6, he7, he8⟩ := hs3
    have hF9 := Fr_tr (lo := 179) (hi := 180) Fr_rf hf4 (by omega)
    refine ra_iconst rfl ?_
    exact ra_ireturn rfl (ra_okB (Or.inr rfl)) ⟨⟨_, (Or.inr rfl), ⟨(fun q => by omega), (x4se_y hK (by omega) rfl he8 ⟨((he5 15 (by decide) (by decide) (by decide) (by decide))).trans he0, (he5 16 (by decide) (by decide) (by decide) (by decide))⟩)⟩, rfl⟩, ⟨hF9, (fun a h15 h16 h17 h18 h19 h20 => (he5 a h17 h18 h19 h20)), he6, (by have m_s3 := he7.1; omega)⟩⟩
  · refine ra_load rfl rfl rfl rfl ?_
    refine ra_iconst rfl ?_
    refine ra_cQP (s4_252 (by first | omega | (unfold ra_in at *; omega))) rfl (ct_252 rfl lk_8_233 (Or.inl rfl) sh_179 (Nat.le_of_ble_eq_true rfl)) (fun z11 s10 hz11 hz11p hs10 => ?_)
    obtain ⟨hf12, he13, he14⟩ := hs10
    have hF15 := Fr_tr (lo := 179) (hi := 180) Fr_rf hf12 (by omega)
    exact ra_ireturn rfl (ra_okB hz11) ⟨⟨_, hz11, ⟨(fun q => by omega), (x4se_n hK (by omega) hz11p (by have q := he14 he0; omega))⟩, rfl⟩, ⟨hF15, (fun a h15 h16 h17 h18 h19 h20 => (he13 a h15 h16)), (pt_e (he13 12 (by decide) (by decide)) (he13 17 (by decide) (by decide)) (he13 18 (by decide) (by decide)) (he13 19 (by decide) (by decide)) hpt), (by have m_s10 : ra_g s10 179 17 = ra_g σ 179 17 := (he13 17 (by decide) (by decide)); have k_s10 : ra_g s10 179 20 = ra_g σ 179 20 := (he13 20 (by decide) (by decide)); omega)⟩⟩
theorem l4_253_23 {n : Nat} {f : Nat → Int32} {d : Nat} {q0 : Nat} {tx0 : String} {u0 w0 : Nat} {σ : ra_V} (hq0 : ri_cp (g_Gs n f) g_m_X8_isWord q0 = some (9, u0, w0, tx0)) (hl0 : tx0.toList.length ≤ 100) (hpt : 0 ≤ ra_g σ 179 18 ∧ ra_g σ 179 18 ≤ ra_g σ 179 17 ∧ ra_g σ 179 17 ≤ ra_g σ 179 12 ∧ ra_g σ 179 12 ≤ 500 ∧ 0 ≤ ra_g σ 179 19 ∧ ra_g σ 179 19 ≤ 999) (hB : x4TR σ B bn) (hN : x4RTK B bn σ ta) : ∀ (nn : Nat) (v2 : Int) (hv2_0 : 0 ≤ v2) (hv2_1 : v2 ≤ 500) (hv2_2 : ∀ j : Nat, (j : Int) < v2 → B (ta + j) = ((tx0.toList.getD j 'a').toNat : Int)) (hle : (tx0.toList.length : Int) = ra_g σ 179 17 - ra_g σ 179 18) (hk : tx_k B bn ta = 1 ∧ tx_e B bn ta = ta + tx0.toList.length) (hm : (((tx0.toList.length : Int) - v2 : Int)).toNat < nn), ra_P (g_Gs n f) g_sh 0 (d + 5) g_m_X8_isWord 23 [some (.index (179)), some (.string (ri_own g_m_X8_isWord) q0), some (ra_I v2)] [] σ (fun r9 s => (∃ z : Int, (z = 0 ∨ z = 1) ∧ (z = 1 ↔ tx_isw B bn ta tx0.toList = true) ∧ r9 = .inl (some (ra_I z))) ∧ s = σ) := by
  intro nn
  induction nn with
  | zero => intro v2 hv2_0 hv2_1 hv2_2 hle hk hm; exact absurd hm (Nat.not_lt_zero _)
  | succ nn ih =>
    intro v2 hv2_0 hv2_1 hv2_2 hle hk hm
    have hB0 := hB
    obtain ⟨b1, b2, b3, b4⟩ := hB0
    have hN0 := hN
    obtain ⟨n1, n2, n3, -, n5, n6, n7⟩ := hN0
    refine ra_load rfl rfl rfl rfl ?_
    refine ra_load rfl rfl rfl rfl ?_
    refine ra_slen_ rfl lk_8_224 hq0 (Nat.le_of_ble_eq_true rfl) (by decide +kernel) ?_
    refine ra_icge rfl rfl (by first | omega | (unfold ra_in at *; omega)) (by first | omega | (unfold ra_in at *; omega)) (fun h6 => ?_) (fun h6 => ?_)
    · refine ra_iconst rfl ?_
      exact ra_ireturn rfl (ra_okB (Or.inr rfl)) ⟨⟨_, (Or.inr rfl), (iff_of_true rfl (x4isw_iff.mpr ⟨hk.1, by omega, fun j hj => hv2_2 j (by omega)⟩)), rfl⟩, rfl⟩
    · refine ra_load rfl rfl rfl rfl ?_
      refine ra_getR rfl lk_8_31 (Nat.zero_le _) sh_179 rfl ?_
      refine ra_load rfl rfl rfl rfl ?_
      refine ra_getI rfl lk_8_198 (Nat.zero_le _) sh_179 rfl ?_
      have hr7 : ra_in (ra_g σ (179) 18) := (ra_in_g _ _ _)
      refine ra_load rfl rfl rfl rfl ?_
      refine ra_iadd rfl ?_
      have eb : ra_g σ 187 (ra_g σ 179 18 + v2).toNat = B (ta + v2.toNat) := by rw [show (ra_g σ 179 18 + v2).toNat = ta + v2.toNat by omega]; exact ((b3 _ (by omega)).1).symm
      refine ra_iaload rfl sh_187 rfl (by decide) (by first | omega | (unfold ra_in at *; omega)) (by first | omega | (unfold ra_in at *; omega)) ?_
      have hr8 : ra_in (ra_g σ (187) ((ra_g σ (179) 18) + v2).toNat) := (ra_in_g _ _ _)
      refine ra_load rfl rfl rfl rfl ?_
      refine ra_load rfl rfl rfl rfl ?_
      obtain ⟨ch9, hch9⟩ : ∃ c, tx0.toList[(v2).toNat]? = some c := ⟨_, List.getElem?_eq_getElem (by first | omega | (unfold ra_in at *; omega))⟩
      refine ra_schar rfl lk_8_229 hq0 (Nat.le_of_ble_eq_true rfl) (by decide +kernel) (by first | omega | (unfold ra_in at *; omega)) (by first | omega | (unfold ra_in at *; omega)) hch9 ?_
      refine ra_iceq rfl rfl hr8 (x4ch_in ch9) (fun h10 => ?_) (fun h10 => ?_)
      · refine ra_iinc (L' := [_, _, _]) rfl rfl (Nat.le_of_ble_eq_true rfl) rfl ?_
        refine ra_goto rfl rfl ?_
        exact ra_weak (by repeat' constructor) (ih (v2 + 1) (by first | omega | (unfold ra_in at *; omega)) (by first | omega | (unfold ra_in at *; omega)) (x4isw_s hv2_0 hv2_2 hch9 (by omega)) hle hk (by first | omega | (unfold ra_in at *; omega)))
      · refine ra_iconst rfl ?_
        exact ra_ireturn rfl (ra_okB (Or.inl rfl)) ⟨⟨_, (Or.inl rfl), (iff_of_false (by decide) (x4isw_n hch9 (by omega))), rfl⟩, rfl⟩
theorem s4_253 {n : Nat} {f : Nat → Int32} {d : Nat} {q0 : Nat} {tx0 : String} {u0 w0 : Nat} {σ : ra_V} (hq0 : ri_cp (g_Gs n f) g_m_X8_isWord q0 = some (9, u0, w0, tx0)) (hl0 : tx0.toList.length ≤ 100) (hpt : 0 ≤ ra_g σ 179 18 ∧ ra_g σ 179 18 ≤ ra_g σ 179 17 ∧ ra_g σ 179 17 ≤ ra_g σ 179 12 ∧ ra_g σ 179 12 ≤ 500 ∧ 0 ≤ ra_g σ 179 19 ∧ ra_g σ 179 19 ≤ 999) (hB : x4TR σ B bn) (hN : x4RTK B bn σ ta) : ra_C (g_Gs n f) g_sh 0 (d + 6) 253 [.index (179), .string (ri_own g_m_X8_isWord) q0] σ (fun r9 s => (∃ z : Int, (z = 0 ∨ z = 1) ∧ (z = 1 ↔ tx_isw B bn ta tx0.toList = true) ∧ r9 = .inl (some (ra_I z))) ∧ s = σ) := by
  refine ra_enter (nn := 1) mt_253 rfl (Nat.le_of_ble_eq_true rfl) rfl (fun _ => by omega) ?_
  have hB0 := hB
  obtain ⟨b1, b2, b3, b4⟩ := hB0
  have hN0 := hN
  obtain ⟨n1, n2, n3, -, n5, n6, n7⟩ := hN0
  refine ra_load rfl rfl rfl rfl ?_
  refine ra_getI rfl lk_8_204 (Nat.zero_le _) sh_179 rfl ?_
  have hr1 : ra_in (ra_g σ (179) 20) := (ra_in_g _ _ _)
  refine ra_iconst rfl ?_
  refine ra_icne rfl rfl hr1 (by first | omega | (unfold ra_in at *; omega)) (fun h2 => ?_) (fun h2 => ?_)
  · refine ra_iconst rfl ?_
    exact ra_ireturn rfl (ra_okB (Or.inl rfl)) ⟨⟨_, (Or.inl rfl), (iff_of_false (by decide) (fun q => by have q1 := x4isw_iff.mp q; have q2 := q1.1; have q3 := q1.2.1; omega)), rfl⟩, rfl⟩
  · refine ra_load rfl rfl rfl rfl ?_
    refine ra_cTp (sp_251 (by omega)) rfl (ct_251 rfl lk_8_221 (Or.inl rfl) sh_179 (Nat.le_of_ble_eq_true rfl)) ?_
    have hr4 : ra_in (ra_g σ 179 17 - ra_g σ 179 18) := (by unfold ra_in; omega)
    refine ra_load rfl rfl rfl rfl ?_
    refine ra_slen_ rfl lk_8_224 hq0 (Nat.le_of_ble_eq_true rfl) (by decide +kernel) ?_
    refine ra_iceq rfl rfl hr4 (by first | omega | (unfold ra_in at *; omega)) (fun h5 => ?_) (fun h5 => ?_)
    · refine ra_iconst rfl ?_
      refine ra_store (L' := [_, _, _]) rfl rfl rfl (Nat.le_of_ble_eq_true rfl) rfl ?_
      exact ra_weak (by repeat' constructor) (l4_253_23 hq0 hl0 hpt hB hN _ (0) (by first | omega | (unfold ra_in at *; omega)) (by first | omega | (unfold ra_in at *; omega)) (fun j hj => by omega) (by omega) (by omega) (Nat.lt_succ_self _))
    · refine ra_iconst rfl ?_
      exact ra_ireturn rfl (ra_okB (Or.inl rfl)) ⟨⟨_, (Or.inl rfl), (iff_of_false (by decide) (fun q => by have q1 := x4isw_iff.mp q; have q2 := q1.1; have q3 := q1.2.1; omega)), rfl⟩, rfl⟩
end
end
section
/-! T4: what the reference's methods that read a text do (printed by wip/gen/r4.py) -/
section
variable {B : Nat → Int} {bn ps ta ti : Nat} {r : Nat → Int}
theorem s4_256 {n : Nat} {f : Nat → Int32} {d : Nat} {x0 : Int} {x1 : Int} {x2 : Int} {x3 : Int} {σ : ra_V} (hx0 : ra_in x0) (hx1 : ra_in x1) (hx2 : ra_in x2) (hx3 : ra_in x3) (hpt : 0 ≤ ra_g σ 179 18 ∧ ra_g σ 179 18 ≤ ra_g σ 179 17 ∧ ra_g σ 179 17 ≤ ra_g σ 179 12 ∧ ra_g σ 179 12 ≤ 500 ∧ 0 ≤ ra_g σ 179 19 ∧ ra_g σ 179 19 ≤ 999) (hld : LD σ) (hst : (x0 = 1 ∧ x1 = 1 ∧ x2 = 0 ∧ x3 = 31) ∨ (x0 = 2 ∧ x1 = 2 ∧ x2 = 0 ∧ x3 = 31) ∨ (x0 = 3 ∧ x1 = 4 ∧ x2 = 1 ∧ x3 = 32) ∨ (x0 = 4 ∧ x1 = 8 ∧ x2 = 1 ∧ x3 = 16)) (hB : x4TR σ B bn) (hN : x4RTK B bn σ ta) (hR : x4RR r σ) : ra_C (g_Gs n f) g_sh 0 (d + 4) 256 [.index (179), ra_I x0, ra_I x1, ra_I x2, ra_I x3] σ (fun r9 s => (∃ z : Int, (z = 0 ∨ z = 1) ∧ ((z = 1 → ra_g s 179 20 = 3 → ra_g σ 179 17 < ra_g s 179 17) ∧ x4ROC B bn s z (tx_set B bn r ta x0.toNat (100 + x0.toNat) (decide (x1 < 8)) x2 x3)) ∧ r9 = .inl (some (ra_I z))) ∧ Fr (179) (189) σ s ∧ s (181) = σ (181) ∧ s (182) = σ (182) ∧ s (183) = σ (183) ∧ s (184) = σ (184) ∧ (∀ a, a ≠ 15 → a ≠ 16 → a ≠ 17 → a ≠ 18 → a ≠ 19 → a ≠ 20 → a ≠ 21 → ra_g s 179 a = ra_g σ 179 a) ∧ LD s ∧ (0 ≤ ra_g s 179 18 ∧ ra_g s 179 18 ≤ ra_g s 179 17 ∧ ra_g s 179 17 ≤ ra_g s 179 12 ∧ ra_g s 179 12 ≤ 500 ∧ 0 ≤ ra_g s 179 19 ∧ ra_g s 179 19 ≤ 999) ∧ ra_g σ 179 17 ≤ ra_g s 179 17 ∧ s (187) = σ (187)) := by
  refine ra_enter (nn := 0) mt_256 rfl (Nat.le_of_ble_eq_true rfl) rfl (fun h => absurd h (by decide +kernel)) ?_
  have hw0 := WF_a hld.1
  unfold WFa at hw0
  have hl5 := hld.2.2.1
  have hR0 := hR
  obtain ⟨⟨q0, q1, q2, q3, q4, q5⟩, q21, -, ⟨q15, q16⟩, qp⟩ := hR0
  have hN0 := hN
  obtain ⟨n1, n2, n3, -, n5, n6, n7⟩ := hN0
  refine ra_load rfl rfl rfl rfl ?_
  refine ra_bipush rfl (by decide) ?_
  refine ra_icge rfl rfl hx1 (by first | omega | (unfold ra_in at *; omega)) (fun h1 => ?_) (fun h1 => ?_)
  · refine ra_load rfl rfl rfl rfl ?_
    refine ra_getI rfl lk_8_243 (Nat.zero_le _) sh_179 rfl ?_
    have hr2 : ra_in (ra_g σ (179) 21) := (ra_in_g _ _ _)
    refine ra_load rfl rfl rfl rfl ?_
    refine ra_iand rfl ?_
    refine ra_ifeq rfl rfl (ra_in_op _ _ _) (fun h3 => ?_) (fun h3 => ?_)
    · refine ra_load rfl rfl rfl rfl ?_
      refine ra_dup rfl rfl ?_
      refine ra_getI rfl lk_8_243 (Nat.zero_le _) sh_179 rfl ?_
      have hr4 : ra_in (ra_g σ (179) 21) := (ra_in_g _ _ _)
      refine ra_load rfl rfl rfl rfl ?_
      refine ra_ior rfl ?_
      refine ra_putI rfl lk_8_243 (Nat.zero_le _) sh_179 rfl rfl ?_
      refine ra_newU (ra_in_op _ _ _) (fun s5 hs5 hp6 hp6o => ?_)
      have hp6_99 := hp6o 99 (by decide)
      have hF7 := Fr_tr (lo := 179) (hi := 189) Fr_rf hs5 (by omega)
      have hk8 : s5 (180) = σ (180) := (hs5 (180) (by omega))
      have hk9 : s5 (181) = σ (181) := (hs5 (181) (by omega))
      have hk10 : s5 (182) = σ (182) := (hs5 (182) (by omega))
      have hk11 : s5 (183) = σ (183) := (hs5 (183) (by omega))
      have hk12 : s5 (184) = σ (184) := (hs5 (184) (by omega))
      have hk13 : s5 (187) = σ (187) := (hs5 (187) (by omega))
      refine ra_load rfl rfl rfl rfl ?_
      refine ra_cV (s4_250 (by have q := (pt_e (hp6o 12 (by decide)) (hp6o 17 (by decide)) (hp6o 18 (by decide)) (hp6o 19 (by decide)) hpt); omega) (x4TR_k (hp6o 12 (by decide)) (hs5 (187) (by omega)) hB) (show ra_g s5 179 17 = ((tx_e B bn ta : Nat) : Int) from ((hp6o 17 (by decide))).trans hN.2.1) (by omega)) rfl (ct_250 rfl lk_8_240 (Or.inl rfl) sh_179 (Nat.le_of_ble_eq_true rfl)) (fun s14 hs14 => ?_)
      obtain ⟨hf15, he16, he17, he18, he19⟩ := hs14
      have hF20 := Fr_tr (lo := 179) (hi := 189) hF7 hf15 (by omega)
      have hk21 : s14 (180) = σ (180) := (hf15 (180) (by omega)).trans hk8
      have hk22 : s14 (181) = σ (181) := (hf15 (181) (by omega)).trans hk9
      have hk23 : s14 (182) = σ (182) := (hf15 (182) (by omega)).trans hk10
      have hk24 : s14 (183) = σ (183) := (hf15 (183) (by omega)).trans hk11
      have hk25 : s14 (184) = σ (184) := (hf15 (184) (by omega)).trans hk12
      have hk26 : s14 (187) = σ (187) := (hf15 (187) (by omega)).trans hk13
      refine ra_load rfl rfl rfl rfl ?_
      refine ra_iconst rfl ?_
      refine ra_load rfl rfl rfl rfl ?_
      refine ra_load rfl rfl rfl rfl ?_
      refine ra_cQPs (s4_255 (by first | omega | (unfold ra_in at *; omega)) hx2 hx3 he17 (by first | assumption | rfl | omega) (x4TR_k ((he16 12 (by decide) (by decide) (by decide) (by decide)).trans (hp6o 12 (by decide))) ((hf15 (187) (by omega)).trans (hs5 (187) (by omega))) hB) he19 ((((he16 15 (by decide) (by decide) (by decide) (by decide)).trans (hp6o 15 (by decide)))).trans q15)) rfl (ct_255 rfl lk_8_246 (Or.inl rfl) sh_179 (Nat.le_of_ble_eq_true rfl)) (fun z28 s27 hz28 hz28p hs27 => ?_)
      have hz28o := hz28p.1
      have hz28q := hz28p.2
      obtain ⟨hf29, hc30, hc31, hc32, hc33, hc34, he35, he36, he37, he38, he39⟩ := hs27
      have hF40 := Fr_tr (lo := 179) (hi := 189) hF20 hf29 (by omega)
      have hk41 : s27 (180) = σ (180) := hc30.trans hk21
      have hk42 : s27 (181) = σ (181) := hc31.trans hk22
      have hk43 : s27 (182) = σ (182) := hc32.trans hk23
      have hk44 : s27 (183) = σ (183) := hc33.trans hk24
      have hk45 : s27 (184) = σ (184) := hc34.trans hk25
      refine ra_ifne rfl rfl (ra_in01 hz28) (fun h46 => ?_) (fun h46 => ?_)
      · rw [toN0] at hz28q
        obtain ⟨-, hr1, hK1, hl1, hu1, he1, he1b⟩ := hz28q.resolve_right (fun q => by omega)
        have hKa := he19
        have ht := hz28o (by omega)
        rw [toN0] at ht
        have hld1 := (LD_k hc30 (LD_k (hf15 180 (by omega)) (LD_k (hs5 180 (by omega)) hld)))
        have h51 : ra_g s27 180 5 = ra_g σ 180 5 := ra_gk hk41
        refine ra_load rfl rfl rfl rfl ?_
        refine ra_getR rfl lk_8_7 (Nat.zero_le _) sh_179 rfl ?_
        refine ra_load rfl rfl rfl rfl ?_
        refine ra_load rfl rfl rfl rfl ?_
        refine ra_getR rfl lk_8_38 (Nat.zero_le _) sh_179 rfl ?_
        refine ra_iconst rfl ?_
        refine ra_ialoadJ (j := 0) rfl sh_188 rfl (by decide) rfl (by decide) ?_
        have hr47 : ra_in (ra_g s27 (188) 0) := (ra_in_g _ _ _)
        refine ra_iastore rfl sh_180 rfl (by decide) (by first | omega | (unfold ra_in at *; omega)) (by first | omega | (unfold ra_in at *; omega)) ?_
        refine ra_newR hr47 (fun s48 hs48 hs48v hs48o => ?_)
        have hF49 := Fr_tr (lo := 179) (hi := 189) hF40 hs48 (by omega)
        have hk50 : s48 (181) = σ (181) := (hs48 (181) (by omega)).trans hk42
        have hk51 : s48 (182) = σ (182) := (hs48 (182) (by omega)).trans hk43
        have hk52 : s48 (183) = σ (183) := (hs48 (183) (by omega)).trans hk44
        have hk53 : s48 (184) = σ (184) := (hs48 (184) (by omega)).trans hk45
        refine ra_iconst rfl ?_
        exact ra_ireturn rfl (ra_okB (Or.inr rfl)) ⟨⟨_, (Or.inr rfl), ⟨(fun _ q => by have m_s5 : ra_g s5 179 17 = ra_g σ 179 17 := (hp6o 17 (by decide)); have k_s5 : ra_g s5 179 20 = ra_g σ 179 20 := (hp6o 20 (by decide)); have m_s14 := he18.1; have m_s27 := he38; have m_s48 : ra_g s48 179 17 = ra_g s27 179 17 := (ra_gk (hs48 179 (by omega))); have k_s48 : ra_g s48 179 20 = ra_g s27 179 20 := (ra_gk (hs48 179 (by omega))); have m_a := hz28o (by omega); omega), (x4ro_y rfl (x4set_y (fun q => by have q9 := of_decide_eq_true q.1; have q8 := q.2; omega) (by have q9 := ((x4rs_h hst hR).2.1 (by omega)).1; omega) hr1) (x4RR_set hst hR ((x4rs_h hst hR).2.1 (by omega)).1 ((((ra_gk (hs48 179 (by omega))).trans ((he35 21 (by decide) (by decide) (by decide) (by decide) (by decide) (by decide)).trans (he16 21 (by decide) (by decide) (by decide) (by decide))))).trans (hp6.trans ((x4rs_h hst hR).2.1 (by omega)).2)) ⟨by have a : ra_g s48 179 15 = ra_g s27 179 15 := (ra_gk (hs48 179 (by omega))); omega, by have a : ra_g s48 179 16 = ra_g s27 179 16 := (ra_gk (hs48 179 (by omega))); have b : ra_g s14 179 16 = ra_g σ 179 16 := ((he16 16 (by decide) (by decide) (by decide) (by decide)).trans (hp6o 16 (by decide))); omega⟩ hs48v (fun j hj => (hs48o j hj).trans (ra_gk (hc30.trans ((hf15 (180) (by omega)).trans (hs5 (180) (by omega))))))) (x4RTK_k (ra_gk (hs48 179 (by omega))) (ra_gk (hs48 179 (by omega))) (ra_gk (hs48 179 (by omega))) (ra_gk (hs48 179 (by omega))) hK1) (x4RTK_n hKa))⟩, rfl⟩, ⟨hF49, hk50, hk51, hk52, hk53, (fun a h15 h16 h17 h18 h19 h20 h21 => ((ra_gk (hs48 179 (by omega))).trans ((he35 a h15 h16 h17 h18 h19 h20).trans ((he16 a h17 h18 h19 h20).trans (hp6o a h21))))), (LD_set (j := x0.toNat) hld1 (by omega) hs48o (fun q => by have t := hs48v; omega) (fun q => by have t := hs48v; omega) (fun q => by have t := hs48v; omega) (fun q => by have t := hs48v; omega) (by omega)), (pt_e (ra_gk (hs48 179 (by omega))) (ra_gk (hs48 179 (by omega))) (ra_gk (hs48 179 (by omega))) (ra_gk (hs48 179 (by omega))) he37), (by have m_s5 : ra_g s5 179 17 = ra_g σ 179 17 := (hp6o 17 (by decide)); have k_s5 : ra_g s5 179 20 = ra_g σ 179 20 := (hp6o 20 (by decide)); have m_s14 := he18.1; have m_s27 := he38; have m_s48 : ra_g s48 179 17 = ra_g s27 179 17 := (ra_gk (hs48 179 (by omega))); have k_s48 : ra_g s48 179 20 = ra_g s27 179 20 := (ra_gk (hs48 179 (by omega))); omega), ((hs48 (187) (by omega)).trans (he39.trans ((hf15 (187) (by omega)).trans (hs5 (187) (by omega)))))⟩⟩
      · refine ra_iconst rfl ?_
        exact ra_ireturn rfl (ra_okB (Or.inl rfl)) ⟨⟨_, (Or.inl rfl), ⟨(fun q => absurd q (by decide)), (x4ro_t hz28q (by omega) rfl (fun x hx => x4set_n (fun q => by have q9 := of_decide_eq_true q.1; have q8 := q.2; omega) (by have q9 := ((x4rs_h hst hR).2.1 (by omega)).1; omega) hx))⟩, rfl⟩, ⟨hF40, hk42, hk43, hk44, hk45, (fun a h15 h16 h17 h18 h19 h20 h21 => ((he35 a h15 h16 h17 h18 h19 h20).trans ((he16 a h17 h18 h19 h20).trans (hp6o a h21)))), (LD_k hc30 (LD_k (hf15 180 (by omega)) (LD_k (hs5 180 (by omega)) hld))), he37, (by have m_s5 : ra_g s5 179 17 = ra_g σ 179 17 := (hp6o 17 (by decide)); have k_s5 : ra_g s5 179 20 = ra_g σ 179 20 := (hp6o 20 (by decide)); have m_s14 := he18.1; have m_s27 := he38; omega), (he39.trans ((hf15 (187) (by omega)).trans (hs5 (187) (by omega))))⟩⟩
    · refine ra_load rfl rfl rfl rfl ?_
      refine ra_iconst rfl ?_
      refine ra_cQP (s4_252 (by first | omega | (unfold ra_in at *; omega))) rfl (ct_252 rfl lk_8_233 (Or.inl rfl) sh_179 (Nat.le_of_ble_eq_true rfl)) (fun z55 s54 hz55 hz55p hs54 => ?_)
      obtain ⟨hf56, he57, he58⟩ := hs54
      have hF59 := Fr_tr (lo := 179) (hi := 189) Fr_rf hf56 (by omega)
      have hk60 : s54 (180) = σ (180) := (hf56 (180) (by omega))
      have hk61 : s54 (181) = σ (181) := (hf56 (181) (by omega))
      have hk62 : s54 (182) = σ (182) := (hf56 (182) (by omega))
      have hk63 : s54 (183) = σ (183) := (hf56 (183) (by omega))
      have hk64 : s54 (184) = σ (184) := (hf56 (184) (by omega))
      have hk65 : s54 (187) = σ (187) := (hf56 (187) (by omega))
      exact ra_ireturn rfl (ra_okB hz55) ⟨⟨_, hz55, ⟨(fun q => absurd q (by omega)), (by first | exact x4ro_f (c := 1) (a := ta) hz55p (x4set_e (decide_eq_true (by omega)) (by omega)) (by have q := he58 q15; omega) (by have q := he58 q15; omega) | exact x4ro_f (c := 3) (a := ta) hz55p (x4set_t (fun q => by have q9 := of_decide_eq_true q.1; have q8 := q.2; omega) ((x4rs_h hst hR).1 (by omega))) (by have q := he58 q15; omega) (by have q := he58 q15; omega))⟩, rfl⟩, ⟨hF59, hk61, hk62, hk63, hk64, (fun a h15 h16 h17 h18 h19 h20 h21 => (he57 a h15 h16)), (LD_k (hf56 180 (by omega)) hld), (pt_e (he57 12 (by decide) (by decide)) (he57 17 (by decide) (by decide)) (he57 18 (by decide) (by decide)) (he57 19 (by decide) (by decide)) hpt), (by have m_s54 : ra_g s54 179 17 = ra_g σ 179 17 := (he57 17 (by decide) (by decide)); have k_s54 : ra_g s54 179 20 = ra_g σ 179 20 := (he57 20 (by decide) (by decide)); omega), (hf56 (187) (by omega))⟩⟩
  · refine ra_load rfl rfl rfl rfl ?_
    refine ra_getR rfl lk_8_7 (Nat.zero_le _) sh_179 rfl ?_
    refine ra_iconst rfl ?_
    refine ra_ialoadJ (j := 5) rfl sh_180 rfl (by decide) rfl (by decide) ?_
    have hr66 : ra_in (ra_g σ (180) 5) := (ra_in_g _ _ _)
    refine ra_ifle rfl rfl hr66 (fun h67 => ?_) (fun h67 => ?_)
    · refine ra_load rfl rfl rfl rfl ?_
      refine ra_getI rfl lk_8_243 (Nat.zero_le _) sh_179 rfl ?_
      have hr68 : ra_in (ra_g σ (179) 21) := (ra_in_g _ _ _)
      refine ra_load rfl rfl rfl rfl ?_
      refine ra_iand rfl ?_
      refine ra_ifeq rfl rfl (ra_in_op _ _ _) (fun h69 => ?_) (fun h69 => ?_)
      · refine ra_load rfl rfl rfl rfl ?_
        refine ra_dup rfl rfl ?_
        refine ra_getI rfl lk_8_243 (Nat.zero_le _) sh_179 rfl ?_
        have hr70 : ra_in (ra_g σ (179) 21) := (ra_in_g _ _ _)
        refine ra_load rfl rfl rfl rfl ?_
        refine ra_ior rfl ?_
        refine ra_putI rfl lk_8_243 (Nat.zero_le _) sh_179 rfl rfl ?_
        refine ra_newU (ra_in_op _ _ _) (fun s71 hs71 hp72 hp72o => ?_)
        have hp72_99 := hp72o 99 (by decide)
        have hF73 := Fr_tr (lo := 179) (hi := 189) Fr_rf hs71 (by omega)
        have hk74 : s71 (180) = σ (180) := (hs71 (180) (by omega))
        have hk75 : s71 (181) = σ (181) := (hs71 (181) (by omega))
        have hk76 : s71 (182) = σ (182) := (hs71 (182) (by omega))
        have hk77 : s71 (183) = σ (183) := (hs71 (183) (by omega))
        have hk78 : s71 (184) = σ (184) := (hs71 (184) (by omega))
        have hk79 : s71 (187) = σ (187) := (hs71 (187) (by omega))
        refine ra_load rfl rfl rfl rfl ?_
        refine ra_cV (s4_250 (by have q := (pt_e (hp72o 12 (by decide)) (hp72o 17 (by decide)) (hp72o 18 (by decide)) (hp72o 19 (by decide)) hpt); omega) (x4TR_k (hp72o 12 (by decide)) (hs71 (187) (by omega)) hB) (show ra_g s71 179 17 = ((tx_e B bn ta : Nat) : Int) from ((hp72o 17 (by decide))).trans hN.2.1) (by omega)) rfl (ct_250 rfl lk_8_240 (Or.inl rfl) sh_179 (Nat.le_of_ble_eq_true rfl)) (fun s80 hs80 => ?_)
        obtain ⟨hf81, he82, he83, he84, he85⟩ := hs80
        have hF86 := Fr_tr (lo := 179) (hi := 189) hF73 hf81 (by omega)
        have hk87 : s80 (180) = σ (180) := (hf81 (180) (by omega)).trans hk74
        have hk88 : s80 (181) = σ (181) := (hf81 (181) (by omega)).trans hk75
        have hk89 : s80 (182) = σ (182) := (hf81 (182) (by omega)).trans hk76
        have hk90 : s80 (183) = σ (183) := (hf81 (183) (by omega)).trans hk77
        have hk91 : s80 (184) = σ (184) := (hf81 (184) (by omega)).trans hk78
        have hk92 : s80 (187) = σ (187) := (hf81 (187) (by omega)).trans hk79
        refine ra_load rfl rfl rfl rfl ?_
        refine ra_iconst rfl ?_
        refine ra_load rfl rfl rfl rfl ?_
        refine ra_load rfl rfl rfl rfl ?_
        refine ra_cQPs (s4_255 (by first | omega | (unfold ra_in at *; omega)) hx2 hx3 he83 (by first | assumption | rfl | omega) (x4TR_k ((he82 12 (by decide) (by decide) (by decide) (by decide)).trans (hp72o 12 (by decide))) ((hf81 (187) (by omega)).trans (hs71 (187) (by omega))) hB) he85 ((((he82 15 (by decide) (by decide) (by decide) (by decide)).trans (hp72o 15 (by decide)))).trans q15)) rfl (ct_255 rfl lk_8_246 (Or.inl rfl) sh_179 (Nat.le_of_ble_eq_true rfl)) (fun z94 s93 hz94 hz94p hs93 => ?_)
        have hz94o := hz94p.1
        have hz94q := hz94p.2
        obtain ⟨hf95, hc96, hc97, hc98, hc99, hc100, he101, he102, he103, he104, he105⟩ := hs93
        have hF106 := Fr_tr (lo := 179) (hi := 189) hF86 hf95 (by omega)
        have hk107 : s93 (180) = σ (180) := hc96.trans hk87
        have hk108 : s93 (181) = σ (181) := hc97.trans hk88
        have hk109 : s93 (182) = σ (182) := hc98.trans hk89
        have hk110 : s93 (183) = σ (183) := hc99.trans hk90
        have hk111 : s93 (184) = σ (184) := hc100.trans hk91
        refine ra_ifne rfl rfl (ra_in01 hz94) (fun h112 => ?_) (fun h112 => ?_)
        · rw [toN0] at hz94q
          obtain ⟨-, hr1, hK1, hl1, hu1, he1, he1b⟩ := hz94q.resolve_right (fun q => by omega)
          have hKa := he85
          have ht := hz94o (by omega)
          rw [toN0] at ht
          have hld1 := (LD_k hc96 (LD_k (hf81 180 (by omega)) (LD_k (hs71 180 (by omega)) hld)))
          have h51 : ra_g s93 180 5 = ra_g σ 180 5 := ra_gk hk107
          refine ra_load rfl rfl rfl rfl ?_
          refine ra_getR rfl lk_8_7 (Nat.zero_le _) sh_179 rfl ?_
          refine ra_load rfl rfl rfl rfl ?_
          refine ra_load rfl rfl rfl rfl ?_
          refine ra_getR rfl lk_8_38 (Nat.zero_le _) sh_179 rfl ?_
          refine ra_iconst rfl ?_
          refine ra_ialoadJ (j := 0) rfl sh_188 rfl (by decide) rfl (by decide) ?_
          have hr113 : ra_in (ra_g s93 (188) 0) := (ra_in_g _ _ _)
          refine ra_iastore rfl sh_180 rfl (by decide) (by first | omega | (unfold ra_in at *; omega)) (by first | omega | (unfold ra_in at *; omega)) ?_
          refine ra_newR hr113 (fun s114 hs114 hs114v hs114o => ?_)
          have hF115 := Fr_tr (lo := 179) (hi := 189) hF106 hs114 (by omega)
          have hk116 : s114 (181) = σ (181) := (hs114 (181) (by omega)).trans hk108
          have hk117 : s114 (182) = σ (182) := (hs114 (182) (by omega)).trans hk109
          have hk118 : s114 (183) = σ (183) := (hs114 (183) (by omega)).trans hk110
          have hk119 : s114 (184) = σ (184) := (hs114 (184) (by omega)).trans hk111
          refine ra_iconst rfl ?_
          exact ra_ireturn rfl (ra_okB (Or.inr rfl)) ⟨⟨_, (Or.inr rfl), ⟨(fun _ q => by have m_s71 : ra_g s71 179 17 = ra_g σ 179 17 := (hp72o 17 (by decide)); have k_s71 : ra_g s71 179 20 = ra_g σ 179 20 := (hp72o 20 (by decide)); have m_s80 := he84.1; have m_s93 := he104; have m_s114 : ra_g s114 179 17 = ra_g s93 179 17 := (ra_gk (hs114 179 (by omega))); have k_s114 : ra_g s114 179 20 = ra_g s93 179 20 := (ra_gk (hs114 179 (by omega))); have m_a := hz94o (by omega); omega), (x4ro_y rfl (x4set_y (fun q => by have q9 := of_decide_eq_true q.1; have q8 := q.2; omega) (by have q9 := ((x4rs_h hst hR).2.1 (by omega)).1; omega) hr1) (x4RR_set hst hR ((x4rs_h hst hR).2.1 (by omega)).1 ((((ra_gk (hs114 179 (by omega))).trans ((he101 21 (by decide) (by decide) (by decide) (by decide) (by decide) (by decide)).trans (he82 21 (by decide) (by decide) (by decide) (by decide))))).trans (hp72.trans ((x4rs_h hst hR).2.1 (by omega)).2)) ⟨by have a : ra_g s114 179 15 = ra_g s93 179 15 := (ra_gk (hs114 179 (by omega))); omega, by have a : ra_g s114 179 16 = ra_g s93 179 16 := (ra_gk (hs114 179 (by omega))); have b : ra_g s80 179 16 = ra_g σ 179 16 := ((he82 16 (by decide) (by decide) (by decide) (by decide)).trans (hp72o 16 (by decide))); omega⟩ hs114v (fun j hj => (hs114o j hj).trans (ra_gk (hc96.trans ((hf81 (180) (by omega)).trans (hs71 (180) (by omega))))))) (x4RTK_k (ra_gk (hs114 179 (by omega))) (ra_gk (hs114 179 (by omega))) (ra_gk (hs114 179 (by omega))) (ra_gk (hs114 179 (by omega))) hK1) (x4RTK_n hKa))⟩, rfl⟩, ⟨hF115, hk116, hk117, hk118, hk119, (fun a h15 h16 h17 h18 h19 h20 h21 => ((ra_gk (hs114 179 (by omega))).trans ((he101 a h15 h16 h17 h18 h19 h20).trans ((he82 a h17 h18 h19 h20).trans (hp72o a h21))))), (LD_set (j := x0.toNat) hld1 (by omega) hs114o (fun q => by have t := hs114v; omega) (fun q => by have t := hs114v; omega) (fun q => by have t := hs114v; omega) (fun q => by have t := hs114v; omega) (by omega)), (pt_e (ra_gk (hs114 179 (by omega))) (ra_gk (hs114 179 (by omega))) (ra_gk (hs114 179 (by omega))) (ra_gk (hs114 179 (by omega))) he103), (by have m_s71 : ra_g s71 179 17 = ra_g σ 179 17 := (hp72o 17 (by decide)); have k_s71 : ra_g s71 179 20 = ra_g σ 179 20 := (hp72o 20 (by decide)); have m_s80 := he84.1; have m_s93 := he104; have m_s114 : ra_g s114 179 17 = ra_g s93 179 17 := (ra_gk (hs114 179 (by omega))); have k_s114 : ra_g s114 179 20 = ra_g s93 179 20 := (ra_gk (hs114 179 (by omega))); omega), ((hs114 (187) (by omega)).trans (he105.trans ((hf81 (187) (by omega)).trans (hs71 (187) (by omega)))))⟩⟩
        · refine ra_iconst rfl ?_
          exact ra_ireturn rfl (ra_okB (Or.inl rfl)) ⟨⟨_, (Or.inl rfl), ⟨(fun q => absurd q (by decide)), (x4ro_t hz94q (by omega) rfl (fun x hx => x4set_n (fun q => by have q9 := of_decide_eq_true q.1; have q8 := q.2; omega) (by have q9 := ((x4rs_h hst hR).2.1 (by omega)).1; omega) hx))⟩, rfl⟩, ⟨hF106, hk108, hk109, hk110, hk111, (fun a h15 h16 h17 h18 h19 h20 h21 => ((he101 a h15 h16 h17 h18 h19 h20).trans ((he82 a h17 h18 h19 h20).trans (hp72o a h21)))), (LD_k hc96 (LD_k (hf81 180 (by omega)) (LD_k (hs71 180 (by omega)) hld))), he103, (by have m_s71 : ra_g s71 179 17 = ra_g σ 179 17 := (hp72o 17 (by decide)); have k_s71 : ra_g s71 179 20 = ra_g σ 179 20 := (hp72o 20 (by decide)); have m_s80 := he84.1; have m_s93 := he104; omega), (he105.trans ((hf81 (187) (by omega)).trans (hs71 (187) (by omega))))⟩⟩
      · refine ra_load rfl rfl rfl rfl ?_
        refine ra_iconst rfl ?_
        refine ra_cQP (s4_252 (by first | omega | (unfold ra_in at *; omega))) rfl (ct_252 rfl lk_8_233 (Or.inl rfl) sh_179 (Nat.le_of_ble_eq_true rfl)) (fun z121 s120 hz121 hz121p hs120 => ?_)
        obtain ⟨hf122, he123, he124⟩ := hs120
        have hF125 := Fr_tr (lo := 179) (hi := 189) Fr_rf hf122 (by omega)
        have hk126 : s120 (180) = σ (180) := (hf122 (180) (by omega))
        have hk127 : s120 (181) = σ (181) := (hf122 (181) (by omega))
        have hk128 : s120 (182) = σ (182) := (hf122 (182) (by omega))
        have hk129 : s120 (183) = σ (183) := (hf122 (183) (by omega))
        have hk130 : s120 (184) = σ (184) := (hf122 (184) (by omega))
        have hk131 : s120 (187) = σ (187) := (hf122 (187) (by omega))
        exact ra_ireturn rfl (ra_okB hz121) ⟨⟨_, hz121, ⟨(fun q => absurd q (by omega)), (by first | exact x4ro_f (c := 1) (a := ta) hz121p (x4set_e (decide_eq_true (by omega)) (by omega)) (by have q := he124 q15; omega) (by have q := he124 q15; omega) | exact x4ro_f (c := 3) (a := ta) hz121p (x4set_t (fun q => by have q9 := of_decide_eq_true q.1; have q8 := q.2; omega) ((x4rs_h hst hR).1 (by omega))) (by have q := he124 q15; omega) (by have q := he124 q15; omega))⟩, rfl⟩, ⟨hF125, hk127, hk128, hk129, hk130, (fun a h15 h16 h17 h18 h19 h20 h21 => (he123 a h15 h16)), (LD_k (hf122 180 (by omega)) hld), (pt_e (he123 12 (by decide) (by decide)) (he123 17 (by decide) (by decide)) (he123 18 (by decide) (by decide)) (he123 19 (by decide) (by decide)) hpt), (by have m_s120 : ra_g s120 179 17 = ra_g σ 179 17 := (he123 17 (by decide) (by decide)); have k_s120 : ra_g s120 179 20 = ra_g σ 179 20 := (he123 20 (by decide) (by decide)); omega), (hf122 (187) (by omega))⟩⟩
    · refine ra_load rfl rfl rfl rfl ?_
      refine ra_iconst rfl ?_
      refine ra_cQP (s4_252 (by first | omega | (unfold ra_in at *; omega))) rfl (ct_252 rfl lk_8_233 (Or.inl rfl) sh_179 (Nat.le_of_ble_eq_true rfl)) (fun z133 s132 hz133 hz133p hs132 => ?_)
      obtain ⟨hf134, he135, he136⟩ := hs132
      have hF137 := Fr_tr (lo := 179) (hi := 189) Fr_rf hf134 (by omega)
      have hk138 : s132 (180) = σ (180) := (hf134 (180) (by omega))
      have hk139 : s132 (181) = σ (181) := (hf134 (181) (by omega))
      have hk140 : s132 (182) = σ (182) := (hf134 (182) (by omega))
      have hk141 : s132 (183) = σ (183) := (hf134 (183) (by omega))
      have hk142 : s132 (184) = σ (184) := (hf134 (184) (by omega))
      have hk143 : s132 (187) = σ (187) := (hf134 (187) (by omega))
      exact ra_ireturn rfl (ra_okB hz133) ⟨⟨_, hz133, ⟨(fun q => absurd q (by omega)), (by first | exact x4ro_f (c := 1) (a := ta) hz133p (x4set_e (decide_eq_true (by omega)) (by omega)) (by have q := he136 q15; omega) (by have q := he136 q15; omega) | exact x4ro_f (c := 3) (a := ta) hz133p (x4set_t (fun q => by have q9 := of_decide_eq_true q.1; have q8 := q.2; omega) ((x4rs_h hst hR).1 (by omega))) (by have q := he136 q15; omega) (by have q := he136 q15; omega))⟩, rfl⟩, ⟨hF137, hk139, hk140, hk141, hk142, (fun a h15 h16 h17 h18 h19 h20 h21 => (he135 a h15 h16)), (LD_k (hf134 180 (by omega)) hld), (pt_e (he135 12 (by decide) (by decide)) (he135 17 (by decide) (by decide)) (he135 18 (by decide) (by decide)) (he135 19 (by decide) (by decide)) hpt), (by have m_s132 : ra_g s132 179 17 = ra_g σ 179 17 := (he135 17 (by decide) (by decide)); have k_s132 : ra_g s132 179 20 = ra_g σ 179 20 := (he135 20 (by decide) (by decide)); omega), (hf134 (187) (by omega))⟩⟩
theorem s4_258 {n : Nat} {f : Nat → Int32} {d : Nat}  {σ : ra_V} (hpt : 0 ≤ ra_g σ 179 18 ∧ ra_g σ 179 18 ≤ ra_g σ 179 17 ∧ ra_g σ 179 17 ≤ ra_g σ 179 12 ∧ ra_g σ 179 12 ≤ 500 ∧ 0 ≤ ra_g σ 179 19 ∧ ra_g σ 179 19 ≤ 999) (hld : LD σ) (hB : x4TR σ B bn) (hN : x4RTK B bn σ ta) (hR : x4RR r σ) : ra_C (g_Gs n f) g_sh 0 (d + 3) 258 [.index (179)] σ (fun r9 s => (∃ z : Int, (z = 0 ∨ z = 1) ∧ ((z = 1 → ra_g s 179 20 = 3 → ra_g σ 179 17 < ra_g s 179 17) ∧ x4ROC B bn s z (tx_lock B bn r ta)) ∧ r9 = .inl (some (ra_I z))) ∧ Fr (179) (189) σ s ∧ s (181) = σ (181) ∧ s (182) = σ (182) ∧ s (183) = σ (183) ∧ s (184) = σ (184) ∧ (∀ a, a ≠ 15 → a ≠ 16 → a ≠ 17 → a ≠ 18 → a ≠ 19 → a ≠ 20 → a ≠ 21 → ra_g s 179 a = ra_g σ 179 a) ∧ LD s ∧ (0 ≤ ra_g s 179 18 ∧ ra_g s 179 18 ≤ ra_g s 179 17 ∧ ra_g s 179 17 ≤ ra_g s 179 12 ∧ ra_g s 179 12 ≤ 500 ∧ 0 ≤ ra_g s 179 19 ∧ ra_g s 179 19 ≤ 999) ∧ ra_g σ 179 17 ≤ ra_g s 179 17 ∧ s (187) = σ (187)) := by
  refine ra_enter (nn := 0) mt_258 rfl (Nat.le_of_ble_eq_true rfl) rfl (fun h => absurd h (by decide +kernel)) ?_
  have hw0 := WF_a hld.1
  unfold WFa at hw0
  have hl5 := hld.2.2.1
  have hR0 := hR
  obtain ⟨⟨q0, q1, q2, q3, q4, q5⟩, q21, -, ⟨q15, q16⟩, qp⟩ := hR0
  have hN0 := hN
  obtain ⟨n1, n2, n3, -, n5, n6, n7⟩ := hN0
  refine ra_load rfl rfl rfl rfl ?_
  refine ra_cV (s4_250 (by have q := hpt; omega) hB (show ra_g σ 179 17 = ((tx_e B bn ta : Nat) : Int) from (rfl).trans hN.2.1) (by omega)) rfl (ct_250 rfl lk_8_240 (Or.inl rfl) sh_179 (Nat.le_of_ble_eq_true rfl)) (fun s1 hs1 => ?_)
  obtain ⟨hf2, he3, he4, he5, he6⟩ := hs1
  have hF7 := Fr_tr (lo := 179) (hi := 189) Fr_rf hf2 (by omega)
  have hk8 : s1 (180) = σ (180) := (hf2 (180) (by omega))
  have hk9 : s1 (181) = σ (181) := (hf2 (181) (by omega))
  have hk10 : s1 (182) = σ (182) := (hf2 (182) (by omega))
  have hk11 : s1 (183) = σ (183) := (hf2 (183) (by omega))
  have hk12 : s1 (184) = σ (184) := (hf2 (184) (by omega))
  have hk13 : s1 (187) = σ (187) := (hf2 (187) (by omega))
  refine ra_load rfl rfl rfl rfl ?_
  refine ra_iconst rfl ?_
  refine ra_load rfl rfl rfl rfl ?_
  refine ra_getR rfl lk_8_7 (Nat.zero_le _) sh_179 rfl ?_
  refine ra_iconst rfl ?_
  refine ra_ialoadJ (j := 5) rfl sh_180 rfl (by decide) rfl (by decide) ?_
  rw [ra_gk hk8]
  have hr14 : ra_in (ra_g σ (180) 5) := (ra_in_g _ _ _)
  refine ra_iconst rfl ?_
  refine ra_isub rfl ?_
  refine ra_cQPs (s4_254 (by first | omega | (unfold ra_in at *; omega)) (by first | omega | (unfold ra_in at *; omega)) (by have q := he4; omega) he6 (((he3 15 (by decide) (by decide) (by decide) (by decide))).trans q15)) rfl (ct_254 rfl lk_8_236 (Or.inl rfl) sh_179 (Nat.le_of_ble_eq_true rfl)) (fun z16 s15 hz16 hz16p hs15 => ?_)
  have hz16o := hz16p.1
  have hz16q := hz16p.2
  obtain ⟨hf17, he18⟩ := hs15
  have hF19 := Fr_tr (lo := 179) (hi := 189) hF7 hf17 (by omega)
  have hk20 : s15 (180) = σ (180) := (hf17 (180) (by omega)).trans hk8
  have hk21 : s15 (181) = σ (181) := (hf17 (181) (by omega)).trans hk9
  have hk22 : s15 (182) = σ (182) := (hf17 (182) (by omega)).trans hk10
  have hk23 : s15 (183) = σ (183) := (hf17 (183) (by omega)).trans hk11
  have hk24 : s15 (184) = σ (184) := (hf17 (184) (by omega)).trans hk12
  have hk25 : s15 (187) = σ (187) := (hf17 (187) (by omega)).trans hk13
  refine ra_ifne rfl rfl (ra_in01 hz16) (fun h26 => ?_) (fun h26 => ?_)
  · have hv := hz16o (by omega)
    have ev_s15 : ra_g s15 179 19 = ra_g s1 179 19 := (he18 19 (by decide) (by decide))
    have e5 : ra_g s1 180 5 = ra_g σ 180 5 := ra_gk (hf2 180 (by omega))
    rw [q5] at hz16q
    obtain ⟨-, hr1, hl1, hu1, he1, he1b⟩ := hz16q.resolve_right (fun q => by omega)
    have hv19 : ra_g s15 179 19 = ra_g s1 179 19 := (he18 19 (by decide) (by decide))
    have d0 := qp (ra_g s15 179 19).toNat (by omega) (by omega)
    have d1 : wq σ (ra_g s15 179 19) 5 = ra_g σ 180 (29 + 8 * (ra_g s15 179 19).toNat) := congrArg (ra_g σ 180) (by omega)
    rw [← hv19] at hr1
    refine ra_load rfl rfl rfl rfl ?_
    refine ra_load rfl rfl rfl rfl ?_
    refine ra_getI rfl lk_8_201 (Nat.zero_le _) sh_179 rfl ?_
    have hr27 : ra_in (ra_g s15 (179) 19) := (ra_in_g _ _ _)
    refine ra_iconst rfl ?_
    refine ra_cTp (sp_200 hr27 (by first | omega | (unfold ra_in at *; omega)) (by first | assumption | rfl | omega)) rfl (ct_200 rfl lk_8_67 (Or.inl rfl) sh_179 (Nat.le_of_ble_eq_true rfl)) ?_
    rw [wq_k hk20]
    have hr29 : ra_in (wq σ (ra_g s15 (179) 19) (5)) := (ra_in_wq _ _ _)
    refine ra_iconst rfl ?_
    refine ra_icne rfl rfl hr29 (by first | omega | (unfold ra_in at *; omega)) (fun h30 => ?_) (fun h30 => ?_)
    · refine ra_load rfl rfl rfl rfl ?_
      refine ra_load rfl rfl rfl rfl ?_
      refine ra_getI rfl lk_8_201 (Nat.zero_le _) sh_179 rfl ?_
      have hr31 : ra_in (ra_g s15 (179) 19) := (ra_in_g _ _ _)
      refine ra_iconst rfl ?_
      refine ra_iconst rfl ?_
      refine ra_cV (sp_201 hr31 (by first | omega | (unfold ra_in at *; omega)) (by first | omega | (unfold ra_in at *; omega)) (by first | assumption | rfl | omega)) rfl (ct_201 rfl lk_8_78 (Or.inl rfl) sh_179 (Nat.le_of_ble_eq_true rfl)) (fun s32 hs32 => ?_)
      obtain ⟨hf33, he34, he35⟩ := hs32
      have hF36 := Fr_tr (lo := 179) (hi := 189) hF19 hf33 (by omega)
      have hk37 : s32 (181) = σ (181) := (hf33 (181) (by omega)).trans hk21
      have hk38 : s32 (182) = σ (182) := (hf33 (182) (by omega)).trans hk22
      have hk39 : s32 (183) = σ (183) := (hf33 (183) (by omega)).trans hk23
      have hk40 : s32 (184) = σ (184) := (hf33 (184) (by omega)).trans hk24
      have hk41 : s32 (187) = σ (187) := (hf33 (187) (by omega)).trans hk25
      refine ra_load rfl rfl rfl rfl ?_
      refine ra_cV (s4_250 (by have q := (pt_e (ra_gk (hf33 179 (by omega))) (ra_gk (hf33 179 (by omega))) (ra_gk (hf33 179 (by omega))) (ra_gk (hf33 179 (by omega))) (pt_e (he18 12 (by decide) (by decide)) (he18 17 (by decide) (by decide)) (he18 18 (by decide) (by decide)) (he18 19 (by decide) (by decide)) he4)); omega) (x4TR_k ((ra_gk (hf33 179 (by omega))).trans ((he18 12 (by decide) (by decide)).trans (he3 12 (by decide) (by decide) (by decide) (by decide)))) ((hf33 (187) (by omega)).trans ((hf17 (187) (by omega)).trans (hf2 (187) (by omega)))) hB) (show ra_g s32 179 17 = ((x4tx_n B bn (tx_e B bn ta) : Nat) : Int) from (((ra_gk (hf33 179 (by omega))).trans (he18 17 (by decide) (by decide)))).trans he6.2.1) (x4RTK_n he6)) rfl (ct_250 rfl lk_8_240 (Or.inl rfl) sh_179 (Nat.le_of_ble_eq_true rfl)) (fun s42 hs42 => ?_)
      obtain ⟨hf43, he44, he45, he46, he47⟩ := hs42
      have hF48 := Fr_tr (lo := 179) (hi := 189) hF36 hf43 (by omega)
      have hk49 : s42 (181) = σ (181) := (hf43 (181) (by omega)).trans hk37
      have hk50 : s42 (182) = σ (182) := (hf43 (182) (by omega)).trans hk38
      have hk51 : s42 (183) = σ (183) := (hf43 (183) (by omega)).trans hk39
      have hk52 : s42 (184) = σ (184) := (hf43 (184) (by omega)).trans hk40
      have hk53 : s42 (187) = σ (187) := (hf43 (187) (by omega)).trans hk41
      refine ra_iconst rfl ?_
      exact ra_ireturn rfl (ra_okB (Or.inr rfl)) ⟨⟨_, (Or.inr rfl), ⟨(fun _ q => by have m_s1 := he5.1; have m_s15 : ra_g s15 179 17 = ra_g s1 179 17 := (he18 17 (by decide) (by decide)); have k_s15 : ra_g s15 179 20 = ra_g s1 179 20 := (he18 20 (by decide) (by decide)); have m_s32 : ra_g s32 179 17 = ra_g s15 179 17 := (ra_gk (hf33 179 (by omega))); have k_s32 : ra_g s32 179 20 = ra_g s15 179 20 := (ra_gk (hf33 179 (by omega))); have m_s42 := he46.1; have m_a := he46.2; omega), (x4ro_y rfl (x4lock_y hr1 (by omega)) (x4RR_lock (j := (ra_g s15 179 19).toNat) (by omega) (by omega) hR ((ra_gk (hf43 (180) (by omega))).trans ((congrArg (ra_g s32 180) (by omega : 29 + 8 * (ra_g s15 179 19).toNat = (24 + 8 * ra_g s15 179 19 + 5).toNat)).trans he34)) (fun a ha => (ra_gk (hf43 (180) (by omega))).trans ((he35 a (by omega)).trans (ra_gk ((hf17 (180) (by omega)).trans (hf2 (180) (by omega)))))) ⟨by have a : ra_g s42 179 15 = ra_g s15 179 15 := ((he44 15 (by decide) (by decide) (by decide) (by decide)).trans (ra_gk (hf33 179 (by omega)))); omega, by have a : ra_g s42 179 16 = ra_g s15 179 16 := ((he44 16 (by decide) (by decide) (by decide) (by decide)).trans (ra_gk (hf33 179 (by omega)))); have b : ra_g s1 179 16 = ra_g σ 179 16 := (he3 16 (by decide) (by decide) (by decide) (by decide)); omega, ((he44 21 (by decide) (by decide) (by decide) (by decide)).trans ((ra_gk (hf33 179 (by omega))).trans ((he18 21 (by decide) (by decide)).trans (he3 21 (by decide) (by decide) (by decide) (by decide)))))⟩) he47 (x4RTK_n he6))⟩, rfl⟩, ⟨hF48, hk49, hk50, hk51, hk52, (fun a h15 h16 h17 h18 h19 h20 h21 => ((he44 a h17 h18 h19 h20).trans ((ra_gk (hf33 179 (by omega))).trans ((he18 a h15 h16).trans (he3 a h17 h18 h19 h20))))), (LD_k (hf43 180 (by omega)) (LD_lock (LD_k (hf17 180 (by omega)) (LD_k (hf2 180 (by omega)) hld)) ⟨by omega, by omega⟩ he35)), he45, (by have m_s1 := he5.1; have m_s15 : ra_g s15 179 17 = ra_g s1 179 17 := (he18 17 (by decide) (by decide)); have k_s15 : ra_g s15 179 20 = ra_g s1 179 20 := (he18 20 (by decide) (by decide)); have m_s32 : ra_g s32 179 17 = ra_g s15 179 17 := (ra_gk (hf33 179 (by omega))); have k_s32 : ra_g s32 179 20 = ra_g s15 179 20 := (ra_gk (hf33 179 (by omega))); have m_s42 := he46.1; omega), ((hf43 (187) (by omega)).trans ((hf33 (187) (by omega)).trans ((hf17 (187) (by omega)).trans (hf2 (187) (by omega)))))⟩⟩
    · refine ra_load rfl rfl rfl rfl ?_
      refine ra_iconst rfl ?_
      refine ra_cQP (s4_252 (by first | omega | (unfold ra_in at *; omega))) rfl (ct_252 rfl lk_8_233 (Or.inl rfl) sh_179 (Nat.le_of_ble_eq_true rfl)) (fun z55 s54 hz55 hz55p hs54 => ?_)
      obtain ⟨hf56, he57, he58⟩ := hs54
      have hF59 := Fr_tr (lo := 179) (hi := 189) hF19 hf56 (by omega)
      have hk60 : s54 (180) = σ (180) := (hf56 (180) (by omega)).trans hk20
      have hk61 : s54 (181) = σ (181) := (hf56 (181) (by omega)).trans hk21
      have hk62 : s54 (182) = σ (182) := (hf56 (182) (by omega)).trans hk22
      have hk63 : s54 (183) = σ (183) := (hf56 (183) (by omega)).trans hk23
      have hk64 : s54 (184) = σ (184) := (hf56 (184) (by omega)).trans hk24
      have hk65 : s54 (187) = σ (187) := (hf56 (187) (by omega)).trans hk25
      exact ra_ireturn rfl (ra_okB hz55) ⟨⟨_, hz55, ⟨(fun q => absurd q (by omega)), (x4ro_f (c := 3) (a := tx_a B bn (tx_e B bn ta)) hz55p (x4lock_t hr1 (by omega)) (by have q := he58 he1; omega) (by have q := he58 he1; have q9 := (x4RTK_k (he18 17 (by decide) (by decide)) (he18 18 (by decide) (by decide)) (he18 19 (by decide) (by decide)) (he18 20 (by decide) (by decide)) he6).1; omega))⟩, rfl⟩, ⟨hF59, hk61, hk62, hk63, hk64, (fun a h15 h16 h17 h18 h19 h20 h21 => ((he57 a h15 h16).trans ((he18 a h15 h16).trans (he3 a h17 h18 h19 h20)))), (LD_k (hf56 180 (by omega)) (LD_k (hf17 180 (by omega)) (LD_k (hf2 180 (by omega)) hld))), (pt_e (he57 12 (by decide) (by decide)) (he57 17 (by decide) (by decide)) (he57 18 (by decide) (by decide)) (he57 19 (by decide) (by decide)) (pt_e (he18 12 (by decide) (by decide)) (he18 17 (by decide) (by decide)) (he18 18 (by decide) (by decide)) (he18 19 (by decide) (by decide)) he4)), (by have m_s1 := he5.1; have m_s15 : ra_g s15 179 17 = ra_g s1 179 17 := (he18 17 (by decide) (by decide)); have k_s15 : ra_g s15 179 20 = ra_g s1 179 20 := (he18 20 (by decide) (by decide)); have m_s54 : ra_g s54 179 17 = ra_g s15 179 17 := (he57 17 (by decide) (by decide)); have k_s54 : ra_g s54 179 20 = ra_g s15 179 20 := (he57 20 (by decide) (by decide)); omega), ((hf56 (187) (by omega)).trans ((hf17 (187) (by omega)).trans (hf2 (187) (by omega))))⟩⟩
  · refine ra_iconst rfl ?_
    exact ra_ireturn rfl (ra_okB (Or.inl rfl)) ⟨⟨_, (Or.inl rfl), ⟨(fun q => absurd q (by decide)), (by have q9 := hz16q; rw [q5] at q9; exact x4ro_n q9 (by omega) rfl (fun x hx => x4lock_n hx))⟩, rfl⟩, ⟨hF19, hk21, hk22, hk23, hk24, (fun a h15 h16 h17 h18 h19 h20 h21 => ((he18 a h15 h16).trans (he3 a h17 h18 h19 h20))), (LD_k (hf17 180 (by omega)) (LD_k (hf2 180 (by omega)) hld)), (pt_e (he18 12 (by decide) (by decide)) (he18 17 (by decide) (by decide)) (he18 18 (by decide) (by decide)) (he18 19 (by decide) (by decide)) he4), (by have m_s1 := he5.1; have m_s15 : ra_g s15 179 17 = ra_g s1 179 17 := (he18 17 (by decide) (by decide)); have k_s15 : ra_g s15 179 20 = ra_g s1 179 20 := (he18 20 (by decide) (by decide)); omega), ((hf17 (187) (by omega)).trans (hf2 (187) (by omega)))⟩⟩
end
end
section
/-! T4: a partition read by the reference -/
section
section
variable {σ s t : ra_V} {B : Nat → Int} {bn n a i k p e ta : Nat} {x y v z w lo hi st sz kd mn : Int} {r : Nat → Int} {u : Int × Nat}
theorem x4rd_b (h : tx_rd B n i lo hi = .inr (v, e)) : lo ≤ v ∧ v ≤ hi ∧ e = x4tx_n B n i := by
  by_cases c : tx_k B n (tx_a B n i) = 2 ∧ tx_e B n (tx_a B n i) - tx_a B n i ≤ 3
  · by_cases d : lo ≤ tx_val B n (tx_a B n i) ∧ tx_val B n (tx_a B n i) ≤ hi
    · rw [x4rd_y c d] at h
      cases h
      exact ⟨d.1, d.2, rfl⟩
    · rw [x4rd_o c d] at h; cases h
  · rw [x4rd_x c] at h; cases h
/-- its start is right -/
def x4PA (B : Nat → Int) (bn : Nat) (r : Nat → Int) (ta : Nat) (st : Int) : Prop := tx_rd B bn (tx_e B bn ta) (r 1) (r 0 - r 2 - 1) = .inr (st, x4tx_n B bn (tx_e B bn ta)) ∧ st % r 3 = 0
/-- its size is right -/
def x4PB (B : Nat → Int) (bn : Nat) (r : Nat → Int) (ta : Nat) (st sz : Int) : Prop := tx_rd B bn (x4tx_n B bn (tx_e B bn ta)) 1 (r 0 - r 2 - st) = .inr (sz, x4tx_n B bn (x4tx_n B bn (tx_e B bn ta))) ∧ ¬ tx_meets r st sz = true
theorem x4pa_1 (hR : x4RR r s) (hW : WFa s) (hn : tx_rd B bn (tx_e B bn ta) 0 999 = .inr (v, e)) (hu : US s v 1) (hm : v.tmod (ra_g s 180 3) = 0) : x4PA B bn r ta v := by
  obtain ⟨⟨q0, q1, q2, q3, q4, q5⟩, -⟩ := hR
  unfold US at hu
  have h0 := (x4rd_b hn).1
  refine ⟨(x4rd_c hn).1 ⟨by omega, by omega⟩, ?_⟩
  rw [← q3, ← Int.tmod_eq_emod_of_nonneg h0]
  exact hm
theorem x4pa_n (hR : x4RR r s) (hW : WFa s) (h8 : r 5 ≠ 8) (hn : tx_rd B bn (tx_e B bn ta) 0 999 = .inr (v, e)) (h : ¬ US s v 1 ∨ v.tmod (ra_g s 180 3) ≠ 0) : tx_part B bn r ta = .inl (2, tx_a B bn (tx_e B bn ta)) := by
  obtain ⟨⟨q0, q1, q2, q3, q4, q5⟩, -⟩ := hR
  have h0 := (x4rd_b hn).1
  by_cases c : r 1 ≤ v ∧ v ≤ r 0 - r 2 - 1
  · refine x4part_2 h8 ((x4rd_c hn).1 c) ?_
    rw [← q3, ← Int.tmod_eq_emod_of_nonneg h0]
    exact h.resolve_left (fun q => q (by unfold US; omega))
  · exact x4part_1 h8 ((x4rd_c hn).2.1 c)
theorem x4pa_f (hR : x4RR r s) (hW : WFa s) (h8 : r 5 ≠ 8) (hn : tx_rd B bn (tx_e B bn ta) 0 999 = .inl u) : tx_part B bn r ta = .inl u := by
  obtain ⟨⟨q0, q1, q2, q3, q4, q5⟩, -⟩ := hR
  unfold WFa at hW
  exact x4part_1 h8 (x4rd_nw hn (by omega) (by omega))
theorem x4pb_1 (hR : x4RR r s) (hL : LD s) (hn : tx_rd B bn (x4tx_n B bn (tx_e B bn ta)) 1 999 = .inr (y, e)) (hu : US s st y) (ht : ¬ TK s st y (-1)) : x4PB B bn r ta st y := by
  have hR0 := hR
  obtain ⟨⟨q0, q1, q2, q3, q4, q5⟩, -⟩ := hR0
  unfold US at hu
  exact ⟨(x4rd_c hn).1 ⟨by omega, by omega⟩, fun q => ht ((x4RR_tk hR hL).mpr q)⟩
theorem x4pb_n (hR : x4RR r s) (h8 : r 5 ≠ 8) (hA : x4PA B bn r ta st) (hn : tx_rd B bn (x4tx_n B bn (tx_e B bn ta)) 1 999 = .inr (y, e)) (hu : ¬ US s st y) : tx_part B bn r ta = .inl (2, tx_a B bn (x4tx_n B bn (tx_e B bn ta))) := by
  obtain ⟨⟨q0, q1, q2, q3, q4, q5⟩, -⟩ := hR
  have h1 := x4rd_b hA.1
  have h2 := x4rd_b hn
  unfold US at hu
  exact x4part_3 h8 hA.1 hA.2 ((x4rd_c hn).2.1 (by omega))
theorem x4pb_t (hR : x4RR r s) (hL : LD s) (h8 : r 5 ≠ 8) (hA : x4PA B bn r ta st) (hn : tx_rd B bn (x4tx_n B bn (tx_e B bn ta)) 1 999 = .inr (y, e)) (hu : US s st y) (ht : TK s st y (-1)) : tx_part B bn r ta = .inl (4, tx_a B bn (x4tx_n B bn (tx_e B bn ta))) := by
  have hR0 := hR
  obtain ⟨⟨q0, q1, q2, q3, q4, q5⟩, -⟩ := hR0
  unfold US at hu
  exact x4part_4 h8 hA.1 hA.2 ((x4rd_c hn).1 ⟨by omega, by omega⟩) ((x4RR_tk hR hL).mp ht)
theorem x4pb_f (hR : x4RR r s) (hW : WFa s) (h8 : r 5 ≠ 8) (hA : x4PA B bn r ta st) (hn : tx_rd B bn (x4tx_n B bn (tx_e B bn ta)) 1 999 = .inl u) : tx_part B bn r ta = .inl u := by
  obtain ⟨⟨q0, q1, q2, q3, q4, q5⟩, -⟩ := hR
  have h1 := x4rd_b hA.1
  unfold WFa at hW
  exact x4part_3 h8 hA.1 hA.2 (x4rd_nw hn (by omega) (by omega))
theorem x4pc_f (h8 : r 5 ≠ 8) (hA : x4PA B bn r ta st) (hB : x4PB B bn r ta st sz) (hn : tx_rd B bn (x4tx_n B bn (x4tx_n B bn (tx_e B bn ta))) 0 9 = .inl u) : tx_part B bn r ta = .inl u := x4part_5 h8 hA.1 hA.2 hB.1 hB.2 hn
theorem x4pd_f (h8 : r 5 ≠ 8) (hA : x4PA B bn r ta st) (hB : x4PB B bn r ta st sz) (hC : tx_rd B bn (x4tx_n B bn (x4tx_n B bn (tx_e B bn ta))) 0 9 = .inr (kd, x4tx_n B bn (x4tx_n B bn (x4tx_n B bn (tx_e B bn ta))))) (hn : tx_rd B bn (x4tx_n B bn (x4tx_n B bn (x4tx_n B bn (tx_e B bn ta)))) 1 sz = .inl u) : tx_part B bn r ta = .inl u := x4part_6 h8 hA.1 hA.2 hB.1 hB.2 hC hn
theorem x4pd_y (h8 : r 5 ≠ 8) (hA : x4PA B bn r ta st) (hB : x4PB B bn r ta st sz) (hC : tx_rd B bn (x4tx_n B bn (x4tx_n B bn (tx_e B bn ta))) 0 9 = .inr (kd, x4tx_n B bn (x4tx_n B bn (x4tx_n B bn (tx_e B bn ta))))) (hn : tx_rd B bn (x4tx_n B bn (x4tx_n B bn (x4tx_n B bn (tx_e B bn ta)))) 1 sz = .inr (mn, x4tx_n B bn (x4tx_n B bn (x4tx_n B bn (x4tx_n B bn (tx_e B bn ta)))))) : tx_part B bn r ta = .inr (tx_mk r st sz kd mn, x4tx_n B bn (x4tx_n B bn (x4tx_n B bn (x4tx_n B bn (tx_e B bn ta))))) := x4part_y h8 hA.1 hA.2 hB.1 hB.2 hC hn
theorem x4mk_z {a m : Int} (h : LD σ) (hk : MK2 σ s z a m mn) (h8 : ra_g σ 180 5 ≠ 8) : z = ra_g σ 180 5 := by
  obtain ⟨h1, h2, h3, h4⟩ := h
  obtain ⟨⟨⟨z0, z1, z2⟩, -⟩, k2, k3⟩ := hk
  have a1 := h4 z z0 z1
  by_cases c : ra_g σ 180 5 < z
  · have := k3 (ra_g σ 180 5) (by omega) c
    have := h4 (ra_g σ 180 5) (by omega) (by omega)
    omega
  · omega
theorem x4RR_mk2 {mn2 : Int} (hR : x4RR r σ) (hL : LD σ) (h8 : ra_g σ 180 5 ≠ 8) (hk : MK2 σ s z st sz mn2) (h50 : wq s z 5 = 0) (h15 : ra_g s 179 15 = ra_g σ 179 15 ∧ ra_g s 179 16 = ra_g σ 179 16 ∧ ra_g s 179 21 = ra_g σ 179 21) : x4RR (tx_mk r st sz kd mn) s := by
  have ez := x4mk_z hL hk h8
  obtain ⟨⟨-, k0, k1, k2, k3, k4⟩, k5, k6⟩ := hk
  have q5 := hR.1.2.2.2.2.2
  have hl := hL.2.2.1
  exact x4RR_mk hR (by omega) ⟨by omega, k1, k2, h50, by omega⟩ k4 h15
/-! the whole text -/
def x4RP (s : ra_V) (z : Int) (o : Sum (Int × Nat) (Nat → Int)) : Prop :=
  (z = 1 ∧ ∃ r : Nat → Int, o = .inr r ∧ x4RR r s) ∨ (z = 0 ∧ ∃ (c : Int) (a : Nat), o = .inl (c, a) ∧ ra_g s 179 15 = c ∧ ra_g s 179 16 = (a : Nat))
def x4RLI (B : Nat → Int) (bn : Nat) (s : ra_V) : Prop := ∃ (k : Nat) (r : Nat → Int) (i : Nat), tx_text B bn = tx_run B bn k r i ∧ x4RR r s ∧ x4RTK B bn s (tx_a B bn i) ∧ (501 : Int) ≤ k + ra_g s 179 17
section
variable {o : Sum (Int × Nat) (Nat → Int)} {c : Int}
theorem x4rp_f (hz : z = 0) (ho : o = .inl (c, a)) (h2 : ra_g s 179 15 = c) (h3 : ra_g s 179 16 = (a : Nat)) : x4RP s z o := Or.inr ⟨hz, c, a, ho, h2, h3⟩
theorem x4rp_t {j : Nat} (h : x4RTA B bn σ s w i j lo hi) (hw : w = 0) (hz : z = 0) (ho : ∀ x, tx_rd B bn i lo hi = .inl x → o = .inl x) : x4RP s z o := by
  rcases h with ⟨q, -⟩ | ⟨-, c, h1, h2, h3⟩
  · omega
  · exact x4rp_f hz (ho _ h1) h2 h3
theorem x4rp_s (h : x4RSE B bn σ s w i) (hw : w = 0) (hz : z = 0) (ho : ∀ x, tx_semi B bn i = .inl x → o = .inl x) : x4RP s z o := by
  rcases h with ⟨q, -⟩ | ⟨-, c, a, h1, h2, h3⟩
  · omega
  · exact x4rp_f hz (ho _ h1) h2 h3
theorem x4rp_e (h : x4RLI B bn s) (ht : ra_g s 179 20 = 0) (hz : z = 1) : x4RP s z (tx_text B bn) := by
  obtain ⟨k, r, i, h1, h2, h3, h4⟩ := h
  exact Or.inl ⟨hz, r, h1.trans (x4run_e (by have := h3.2.2.1; omega)), h2⟩
theorem x4rp_n (h : tx_text B bn = tx_run B bn k r i) (hk : (501 : Int) ≤ k + ra_g t 179 17) (h17 : ra_g t 179 17 ≤ 500) (hK : x4RTK B bn t (tx_a B bn i)) (h20 : ra_g t 179 20 ≠ 0) (hc : x4ROC B bn s w (tx_stmt B bn r (tx_a B bn i))) (hw : w = 0) (hz : z = 0) : x4RP s z (tx_text B bn) := by
  rcases hc with ⟨q, -⟩ | ⟨-, c, a, h1, h2, h3⟩
  · omega
  · obtain ⟨k, rfl⟩ : ∃ j, k = j + 1 := ⟨k - 1, by omega⟩
    refine x4rp_f hz (h.trans (x4run_n (by have := hK.2.2.1; omega) ?_)) h2 h3
    rw [h1]; rfl
theorem x4rp_n2 {e : Nat} {r2 : Nat → Int} {q : ra_V} (h : tx_text B bn = tx_run B bn k r i) (hk : (501 : Int) ≤ k + ra_g t 179 17) (h17 : ra_g t 179 17 ≤ 500) (hK : x4RTK B bn t (tx_a B bn i)) (h20 : ra_g t 179 20 ≠ 0) (hc : tx_stmt B bn r (tx_a B bn i) = .inr (r2, e)) (hs : x4RSE B bn q s w e) (hw : w = 0) (hz : z = 0) : x4RP s z (tx_text B bn) := by
  rcases hs with ⟨q, -⟩ | ⟨-, c, a, h1, h2, h3⟩
  · omega
  · obtain ⟨k, rfl⟩ : ∃ j, k = j + 1 := ⟨k - 1, by omega⟩
    refine x4rp_f hz (h.trans (x4run_n (by have := hK.2.2.1; omega) ?_)) h2 h3
    rw [hc]
    unfold tx_ps
    dsimp only
    rw [h1]
theorem x4rli_s {e : Nat} {r2 : Nat → Int} {q : ra_V} (h : tx_text B bn = tx_run B bn k r i) (hk : (501 : Int) ≤ k + ra_g t 179 17) (h17 : ra_g t 179 17 ≤ 500) (hK : x4RTK B bn t (tx_a B bn i)) (h20 : ra_g t 179 20 ≠ 0) (hc : tx_stmt B bn r (tx_a B bn i) = .inr (r2, e)) (hR : x4RR r2 q) (hs : x4RSE B bn q s w e) (hw : w ≠ 0) (h180 : s 180 = q 180) (h21 : ra_g s 179 21 = ra_g q 179 21) (hm : ra_g t 179 17 < ra_g s 179 17) : x4RLI B bn s := by
  rcases hs with ⟨-, h1, h2, h3, h4, h5⟩ | ⟨q, -⟩
  · obtain ⟨k, rfl⟩ : ∃ j, k = j + 1 := ⟨k - 1, by omega⟩
    have hq := hR.2.2.2.1
    refine ⟨k, r2, x4tx_n B bn e, h.trans (x4run_y (by have := hK.2.2.1; omega) ?_), x4RR_k h180 ⟨by omega, by omega, h21⟩ hR, h2, by omega⟩
    rw [hc]
    unfold tx_ps
    dsimp only
    rw [h1]
  · omega
theorem x4rli_0 {q : ra_V} {v : Int} (h : tx_isw B bn (tx_a B bn 0) ['d', 'i', 's', 'k'] = true) (h1 : tx_rd B bn (tx_e B bn (tx_a B bn 0)) 64 600 = .inr (v, e)) (hR : x4RR (tx_r0 v) q) (hs : x4RSE B bn q s w e) (hw : w ≠ 0) (h180 : s 180 = q 180) (h21 : ra_g s 179 21 = ra_g q 179 21) (hm : 1 ≤ ra_g s 179 17) : x4RLI B bn s := by
  rcases hs with ⟨-, h2, h3, h4, h5, h6⟩ | ⟨q, -⟩
  · have hq := hR.2.2.2.1
    exact ⟨500, tx_r0 v, x4tx_n B bn e, x4text_4 h h1 h2, x4RR_k h180 ⟨by omega, by omega, h21⟩ hR, h3, by omega⟩
  · omega
theorem x4RR_0 (h : ra_g s 180 0 = v ∧ ra_g s 180 1 = 0 ∧ ra_g s 180 2 = 0 ∧ ra_g s 180 3 = 1 ∧ ra_g s 180 4 = 4 ∧ ra_g s 180 5 = 0) (h2 : ra_g s 179 15 = 0 ∧ ra_g s 179 16 = -1 ∧ ra_g s 179 21 = 0) : x4RR (tx_r0 v) s := by
  have f : ∀ j : Nat, j ≠ 0 → j ≠ 3 → j ≠ 4 → tx_r0 v j = 0 := fun j a b c => by unfold tx_r0; rw [if_neg a, if_neg b, if_neg c]
  have e0 : tx_r0 v 0 = v := rfl
  have e3 : tx_r0 v 3 = 1 := rfl
  have e4 : tx_r0 v 4 = 4 := rfl
  have e1 := f 1 (by decide) (by decide) (by decide)
  have e2 := f 2 (by decide) (by decide) (by decide)
  have e5 := f 5 (by decide) (by decide) (by decide)
  have e101 := f 101 (by decide) (by decide) (by decide)
  have e102 := f 102 (by decide) (by decide) (by decide)
  have e103 := f 103 (by decide) (by decide) (by decide)
  have e104 := f 104 (by decide) (by decide) (by decide)
  refine ⟨by omega, by omega, by omega, by omega, fun p hp hq => ?_⟩
  rw [e5] at hq
  omega
theorem x4rp_2 (h : x4RP s z o) : ra_g s 179 15 = tx_err o := by
  rcases h with ⟨-, r, h1, h2⟩ | ⟨-, c, a, h1, h2, h3⟩
  · rw [h1]; exact h2.2.2.2.1.1
  · rw [h1]; exact h2
theorem x4rp_3 (h : x4RP s z o) : ra_g s 179 16 = tx_off o := by
  rcases h with ⟨-, r, h1, h2⟩ | ⟨-, c, a, h1, h2, h3⟩
  · rw [h1]; exact h2.2.2.2.1.2
  · rw [h1]; exact h3
theorem x4rp_m (h : x4RP s z o) (hz : z = 0) : -1 = tx_ans o := by
  rcases h with ⟨q, -⟩ | ⟨-, c, a, h1, -⟩
  · omega
  · rw [h1]; rfl
theorem x4rp_y (h : x4RP s z o) (hz : z ≠ 0) (hx : x = ra_g s 180 5) : x = tx_ans o := by
  rcases h with ⟨-, r, h1, h2⟩ | ⟨q, -⟩
  · rw [h1, hx]; exact h2.1.2.2.2.2.2
  · omega
end
end
end
end
