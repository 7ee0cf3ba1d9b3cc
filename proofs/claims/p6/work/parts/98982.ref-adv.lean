/-! T4: what the reference's methods that read a text do (printed by wip/gen/r4.py) -/
section
variable {B : Nat → Int} {bn ps ta ti : Nat} {r : Nat → Int}
theorem s4_248 {n : Nat} {f : Nat → Int32} {d : Nat} {x0 : Int} {σ : ra_V} (hx0 : ra_in x0) (hB : x4TR σ B bn) (hi : 0 ≤ x0) : ra_C (g_Gs n f) g_sh 0 (d + 1) 248 [.index (179), ra_I x0] σ (fun r9 s => r9 = .inl (some (ra_I (B x0.toNat))) ∧ s = σ) := by
  refine ra_enter (nn := 0) mt_248 rfl (Nat.le_of_ble_eq_true rfl) rfl (fun h => absurd h (by decide +kernel)) ?_
  have hB0 := hB
  obtain ⟨b1, b2, b3, b4⟩ := hB0
  refine ra_load rfl rfl rfl rfl ?_
  refine ra_load rfl rfl rfl rfl ?_
  refine ra_getI rfl lk_8_186 (Nat.zero_le _) sh_179 rfl ?_
  have hr1 : ra_in (ra_g σ (179) 12) := (ra_in_g _ _ _)
  refine ra_icge rfl rfl hx0 hr1 (fun h2 => ?_) (fun h2 => ?_)
  · refine ra_iconst rfl ?_
    exact ra_ireturn rfl rfl ⟨(congrArg (fun z => Sum.inl (some (ra_I z))) (by first | exact x4TR_n hB (by omega) | exact x4TR_y hB (by omega) (by omega))), rfl⟩
  · refine ra_load rfl rfl rfl rfl ?_
    refine ra_getR rfl lk_8_31 (Nat.zero_le _) sh_179 rfl ?_
    refine ra_load rfl rfl rfl rfl ?_
    refine ra_iaload rfl sh_187 rfl (by decide) (by first | omega | (unfold ra_in at *; omega)) (by first | omega | (unfold ra_in at *; omega)) ?_
    have hr3 : ra_in (ra_g σ (187) x0.toNat) := (ra_in_g _ _ _)
    refine ra_goto rfl rfl ?_
    exact ra_ireturn rfl rfl ⟨(congrArg (fun z => Sum.inl (some (ra_I z))) (by first | exact x4TR_n hB (by omega) | exact x4TR_y hB (by omega) (by omega))), rfl⟩
theorem l4_249_146 {n : Nat} {f : Nat → Int32} {d : Nat}  {σ : ra_V} (hpn : 0 ≤ ra_g σ 179 17 ∧ ra_g σ 179 17 ≤ ra_g σ 179 12 ∧ ra_g σ 179 12 ≤ 500) (hB : x4TR σ B bn) (hps : ra_g σ 179 17 = (ps : Nat)) (hpl : ps ≤ bn) : ∀ (nn : Nat) (s : ra_V) (hF : Fr (179) (180) σ s) (hk0 : s (187) = σ (187)) (hov : ∀ a, a ≠ 17 → a ≠ 18 → a ≠ 19 → a ≠ 20 → ra_g s 179 a = ra_g σ 179 a) (hnv : 0 ≤ ra_g s 179 18 ∧ ra_g s 179 18 ≤ ra_g s 179 17 ∧ ra_g s 179 17 ≤ ra_g s 179 12 ∧ ra_g s 179 12 ≤ 500 ∧ 0 ≤ ra_g s 179 19 ∧ ra_g s 179 19 ≤ 999 ∧ ra_g σ 179 17 ≤ ra_g s 179 17 ∧ ra_g s 179 20 ≠ 3 ∧ (ra_g s 179 17 - ra_g s 179 18 ≤ 0 → ra_g s 179 19 = 0) ∧ (ra_g s 179 17 - ra_g s 179 18 ≤ 1 → ra_g s 179 19 ≤ 9) ∧ (ra_g s 179 17 - ra_g s 179 18 ≤ 2 → ra_g s 179 19 ≤ 99)) (hs : ra_g s 179 18 = (tx_a B bn ps : Nat) ∧ ra_g s 179 20 = 2 ∧ tx_a B bn ps < bn) (hd : tx_le (B (tx_a B bn ps)) = false ∧ tx_di (B (tx_a B bn ps)) = true) (hw : tx_sp tx_di B bn (ra_g s 179 17).toNat = tx_sp tx_di B bn (tx_a B bn ps)) (hv : ra_g s 179 19 = tx_v B (tx_a B bn ps) (Nat.min 3 ((ra_g s 179 17).toNat - tx_a B bn ps))) (hm : ((501 - ra_g s 179 17 : Int)).toNat < nn), ra_P (g_Gs n f) g_sh 0 (d + 1) g_m_X8_advanceToken 146 [some (.index (179)), none] [] s (fun r9 s => rV r9 ∧ Fr (179) (180) σ s ∧ (∀ a, a ≠ 17 → a ≠ 18 → a ≠ 19 → a ≠ 20 → ra_g s 179 a = ra_g σ 179 a) ∧ (0 ≤ ra_g s 179 18 ∧ ra_g s 179 18 ≤ ra_g s 179 17 ∧ ra_g s 179 17 ≤ ra_g s 179 12 ∧ ra_g s 179 12 ≤ 500 ∧ 0 ≤ ra_g s 179 19 ∧ ra_g s 179 19 ≤ 999) ∧ (ra_g σ 179 17 ≤ ra_g s 179 17 ∧ (ra_g s 179 20 = 3 → ra_g σ 179 17 < ra_g s 179 17)) ∧ x4RTK B bn s (tx_a B bn ps)) := by
  intro nn
  induction nn with
  | zero => intro s hF hk0 hov hnv hs hd hw hv hm; exact absurd hm (Nat.not_lt_zero _)
  | succ nn ih =>
    intro s hF hk0 hov hnv hs hd hw hv hm
    have e12 := hov 12 (by decide) (by decide) (by decide) (by decide)
    have hB0 := hB
    obtain ⟨b1, b2, b3, b4⟩ := hB0
    refine ra_load rfl rfl rfl rfl ?_
    refine ra_load rfl rfl rfl rfl ?_
    refine ra_getI rfl lk_8_192 (Nat.zero_le _) sh_179 rfl ?_
    have hr54 : ra_in (ra_g s (179) 17) := (ra_in_g _ _ _)
    refine ra_cTp (s4_248 hr54 (x4TR_k (by omega) hk0 hB) (by first | assumption | rfl | omega)) rfl (ct_248 rfl lk_8_195 (Or.inl rfl) sh_179 (Nat.le_of_ble_eq_true rfl)) ?_
    have hr56 : ra_in (B (ra_g s (179) 17).toNat) := (x4TR_in (x4TR_k (by omega) hk0 hB))
    refine ra_i2l rfl hr56 ?_
    refine ra_ldc2 (z := 48) rfl lk_8_211 (by decide) ?_
    refine ra_ldc2 (z := 57) rfl lk_8_213 (by decide) ?_
    refine ra_cTp (sp_192 hr56 (by first | omega | (unfold ra_in at *; omega)) (by first | omega | (unfold ra_in at *; omega))) rfl (ct_192 rfl lk_8_63 (Or.inl rfl) (Nat.le_of_ble_eq_true rfl)) ?_
    refine ra_ifeqB rfl rfl (fun h58 => ?_) (fun h58 => ?_)
    · exact ra_return rfl rfl ⟨rfl, ⟨hF, (fun a h17 h18 h19 h20 => (hov a h17 h18 h19 h20)), by omega, by omega, x4rtk_n (by omega) (by rw [← hw, tx_sp_e (x4di_n (by omega))]; omega) (by omega) hd.1 hd.2 (by omega) (by rw [← hw, tx_sp_e (x4di_n (by omega))]; exact hv)⟩⟩
    · have hlt := x4TR_l hB (i := (ra_g s 179 17).toNat) (by omega)
      refine ra_load rfl rfl rfl rfl ?_
      refine ra_getI rfl lk_8_192 (Nat.zero_le _) sh_179 rfl ?_
      have hr59 : ra_in (ra_g s (179) 17) := (ra_in_g _ _ _)
      refine ra_load rfl rfl rfl rfl ?_
      refine ra_getI rfl lk_8_198 (Nat.zero_le _) sh_179 rfl ?_
      have hr60 : ra_in (ra_g s (179) 18) := (ra_in_g _ _ _)
      refine ra_isub rfl ?_
      refine ra_iconst rfl ?_
      refine ra_icge rfl rfl (by first | omega | (unfold ra_in at *; omega)) (by first | omega | (unfold ra_in at *; omega)) (fun h61 => ?_) (fun h61 => ?_)
      · refine ra_load rfl rfl rfl rfl ?_
        refine ra_dup rfl rfl ?_
        refine ra_getI rfl lk_8_192 (Nat.zero_le _) sh_179 rfl ?_
        have hr62 : ra_in (ra_g s (179) 17) := (ra_in_g _ _ _)
        refine ra_iconst rfl ?_
        refine ra_iadd rfl ?_
        refine ra_putI rfl lk_8_192 (Nat.zero_le _) sh_179 rfl rfl ?_
        refine ra_newU (by first | omega | (unfold ra_in at *; omega)) (fun s63 hs63 hp64 hp64o => ?_)
        have hp64_12 := hp64o 12 (by decide)
        have hp64_18 := hp64o 18 (by decide)
        have hp64_19 := hp64o 19 (by decide)
        have hp64_20 := hp64o 20 (by decide)
        have hF65 := Fr_tr (lo := 179) (hi := 180) hF hs63 (by omega)
        have hk66 : s63 (187) = σ (187) := (hs63 (187) (by omega)).trans hk0
        refine ra_goto rfl rfl ?_
        exact ra_weak (by repeat' constructor) (ih s63 hF65 hk66 (fun a h17 h18 h19 h20 => ((hp64o a (by assumption)).trans (hov a h17 h18 h19 h20))) (by omega) (by omega) hd (by rw [show (ra_g s63 179 17).toNat = (ra_g s 179 17).toNat + 1 by omega]; exact (tx_sp_s (by omega) (x4di_y (by omega))).symm.trans hw) (by rw [show (ra_g s63 179 17).toNat - tx_a B bn ps = ((ra_g s 179 17).toNat - tx_a B bn ps) + 1 by omega]; have q := x4tv_n (x := ra_g s 179 19) (by omega) hv; omega) (by first | omega | (unfold ra_in at *; omega)))
      · refine ra_load rfl rfl rfl rfl ?_
        refine ra_bipush rfl (by decide) ?_
        refine ra_load rfl rfl rfl rfl ?_
        refine ra_getI rfl lk_8_201 (Nat.zero_le _) sh_179 rfl ?_
        have hr67 : ra_in (ra_g s (179) 19) := (ra_in_g _ _ _)
        refine ra_imul rfl ?_
        refine ra_load rfl rfl rfl rfl ?_
        refine ra_load rfl rfl rfl rfl ?_
        refine ra_getI rfl lk_8_192 (Nat.zero_le _) sh_179 rfl ?_
        have hr68 : ra_in (ra_g s (179) 17) := (ra_in_g _ _ _)
        refine ra_cTp (s4_248 hr68 (x4TR_k (by omega) hk0 hB) (by first | assumption | rfl | omega)) rfl (ct_248 rfl lk_8_195 (Or.inl rfl) sh_179 (Nat.le_of_ble_eq_true rfl)) ?_
        have hr70 : ra_in (B (ra_g s (179) 17).toNat) := (x4TR_in (x4TR_k (by omega) hk0 hB))
        refine ra_iadd rfl ?_
        refine ra_bipush rfl (by decide) ?_
        refine ra_isub rfl ?_
        refine ra_putI rfl lk_8_201 (Nat.zero_le _) sh_179 rfl rfl ?_
        refine ra_newU (by first | omega | (unfold ra_in at *; omega)) (fun s71 hs71 hp72 hp72o => ?_)
        have hp72_12 := hp72o 12 (by decide)
        have hp72_17 := hp72o 17 (by decide)
        have hp72_18 := hp72o 18 (by decide)
        have hp72_20 := hp72o 20 (by decide)
        have hF73 := Fr_tr (lo := 179) (hi := 180) hF hs71 (by omega)
        have hk74 : s71 (187) = σ (187) := (hs71 (187) (by omega)).trans hk0
        refine ra_load rfl rfl rfl rfl ?_
        refine ra_dup rfl rfl ?_
        refine ra_getI rfl lk_8_192 (Nat.zero_le _) sh_179 rfl ?_
        have hr75 : ra_in (ra_g s71 (179) 17) := (ra_in_g _ _ _)
        refine ra_iconst rfl ?_
        refine ra_iadd rfl ?_
        refine ra_putI rfl lk_8_192 (Nat.zero_le _) sh_179 rfl rfl ?_
        refine ra_newU (by first | omega | (unfold ra_in at *; omega)) (fun s76 hs76 hp77 hp77o => ?_)
        have hp77_12 := hp77o 12 (by decide)
        have hp77_18 := hp77o 18 (by decide)
        have hp77_19 := hp77o 19 (by decide)
        have hp77_20 := hp77o 20 (by decide)
        have hF78 := Fr_tr (lo := 179) (hi := 180) hF73 hs76 (by omega)
        have hk79 : s76 (187) = σ (187) := (hs76 (187) (by omega)).trans hk74
        refine ra_goto rfl rfl ?_
        exact ra_weak (by repeat' constructor) (ih s76 hF78 hk79 (fun a h17 h18 h19 h20 => ((hp77o a (by assumption)).trans ((hp72o a (by assumption)).trans (hov a h17 h18 h19 h20)))) (by omega) (by omega) hd (by rw [show (ra_g s76 179 17).toNat = (ra_g s 179 17).toNat + 1 by omega]; exact (tx_sp_s (by omega) (x4di_y (by omega))).symm.trans hw) (by rw [show (ra_g s76 179 17).toNat - tx_a B bn ps = ((ra_g s 179 17).toNat - tx_a B bn ps) + 1 by omega]; have q := x4tv_y (x := ra_g s 179 19) (by omega) hv; rw [show tx_a B bn ps + ((ra_g s 179 17).toNat - tx_a B bn ps) = (ra_g s 179 17).toNat by omega] at q; omega) (by first | omega | (unfold ra_in at *; omega)))
theorem l4_249_93 {n : Nat} {f : Nat → Int32} {d : Nat}  {σ : ra_V} (hpn : 0 ≤ ra_g σ 179 17 ∧ ra_g σ 179 17 ≤ ra_g σ 179 12 ∧ ra_g σ 179 12 ≤ 500) (hB : x4TR σ B bn) (hps : ra_g σ 179 17 = (ps : Nat)) (hpl : ps ≤ bn) : ∀ (nn : Nat) (s : ra_V) (hF : Fr (179) (180) σ s) (hk0 : s (187) = σ (187)) (hov : ∀ a, a ≠ 17 → a ≠ 18 → a ≠ 19 → a ≠ 20 → ra_g s 179 a = ra_g σ 179 a) (hnv : 0 ≤ ra_g s 179 18 ∧ ra_g s 179 18 ≤ ra_g s 179 17 ∧ ra_g s 179 17 ≤ ra_g s 179 12 ∧ ra_g s 179 12 ≤ 500 ∧ 0 ≤ ra_g s 179 19 ∧ ra_g s 179 19 ≤ 999 ∧ ra_g σ 179 17 ≤ ra_g s 179 17 ∧ ra_g s 179 20 ≠ 3) (hs : ra_g s 179 18 = (tx_a B bn ps : Nat) ∧ ra_g s 179 20 = 1 ∧ tx_a B bn ps < bn) (hl : tx_le (B (tx_a B bn ps)) = true) (hw : tx_sp tx_le B bn (ra_g s 179 17).toNat = tx_sp tx_le B bn (tx_a B bn ps)) (hm : ((501 - ra_g s 179 17 : Int)).toNat < nn), ra_P (g_Gs n f) g_sh 0 (d + 1) g_m_X8_advanceToken 93 [some (.index (179)), none] [] s (fun r9 s => rV r9 ∧ Fr (179) (180) σ s ∧ (∀ a, a ≠ 17 → a ≠ 18 → a ≠ 19 → a ≠ 20 → ra_g s 179 a = ra_g σ 179 a) ∧ (0 ≤ ra_g s 179 18 ∧ ra_g s 179 18 ≤ ra_g s 179 17 ∧ ra_g s 179 17 ≤ ra_g s 179 12 ∧ ra_g s 179 12 ≤ 500 ∧ 0 ≤ ra_g s 179 19 ∧ ra_g s 179 19 ≤ 999) ∧ (ra_g σ 179 17 ≤ ra_g s 179 17 ∧ (ra_g s 179 20 = 3 → ra_g σ 179 17 < ra_g s 179 17)) ∧ x4RTK B bn s (tx_a B bn ps)) := by
  intro nn
  induction nn with
  | zero => intro s hF hk0 hov hnv hs hl hw hm; exact absurd hm (Nat.not_lt_zero _)
  | succ nn ih =>
    intro s hF hk0 hov hnv hs hl hw hm
    have e12 := hov 12 (by decide) (by decide) (by decide) (by decide)
    have hB0 := hB
    obtain ⟨b1, b2, b3, b4⟩ := hB0
    refine ra_load rfl rfl rfl rfl ?_
    refine ra_load rfl rfl rfl rfl ?_
    refine ra_getI rfl lk_8_192 (Nat.zero_le _) sh_179 rfl ?_
    have hr84 : ra_in (ra_g s (179) 17) := (ra_in_g _ _ _)
    refine ra_cTp (s4_248 hr84 (x4TR_k (by omega) hk0 hB) (by first | assumption | rfl | omega)) rfl (ct_248 rfl lk_8_195 (Or.inl rfl) sh_179 (Nat.le_of_ble_eq_true rfl)) ?_
    have hr86 : ra_in (B (ra_g s (179) 17).toNat) := (x4TR_in (x4TR_k (by omega) hk0 hB))
    refine ra_i2l rfl hr86 ?_
    refine ra_ldc2 (z := 97) rfl lk_8_207 (by decide) ?_
    refine ra_ldc2 (z := 122) rfl lk_8_209 (by decide) ?_
    refine ra_cTp (sp_192 hr86 (by first | omega | (unfold ra_in at *; omega)) (by first | omega | (unfold ra_in at *; omega))) rfl (ct_192 rfl lk_8_63 (Or.inl rfl) (Nat.le_of_ble_eq_true rfl)) ?_
    refine ra_ifeqB rfl rfl (fun h88 => ?_) (fun h88 => ?_)
    · exact ra_return rfl rfl ⟨rfl, ⟨hF, (fun a h17 h18 h19 h20 => (hov a h17 h18 h19 h20)), by omega, by omega, x4rtk_w (by omega) (by rw [← hw, tx_sp_e (x4le_n (by omega))]; omega) (by omega) (by omega) hl⟩⟩
    · have hlt := x4TR_l hB (i := (ra_g s 179 17).toNat) (by omega)
      refine ra_load rfl rfl rfl rfl ?_
      refine ra_dup rfl rfl ?_
      refine ra_getI rfl lk_8_192 (Nat.zero_le _) sh_179 rfl ?_
      have hr89 : ra_in (ra_g s (179) 17) := (ra_in_g _ _ _)
      refine ra_iconst rfl ?_
      refine ra_iadd rfl ?_
      refine ra_putI rfl lk_8_192 (Nat.zero_le _) sh_179 rfl rfl ?_
      refine ra_newU (by first | omega | (unfold ra_in at *; omega)) (fun s90 hs90 hp91 hp91o => ?_)
      have hp91_12 := hp91o 12 (by decide)
      have hp91_18 := hp91o 18 (by decide)
      have hp91_19 := hp91o 19 (by decide)
      have hp91_20 := hp91o 20 (by decide)
      have hF92 := Fr_tr (lo := 179) (hi := 180) hF hs90 (by omega)
      have hk93 : s90 (187) = σ (187) := (hs90 (187) (by omega)).trans hk0
      refine ra_goto rfl rfl ?_
      exact ra_weak (by repeat' constructor) (ih s90 hF92 hk93 (fun a h17 h18 h19 h20 => ((hp91o a (by assumption)).trans (hov a h17 h18 h19 h20))) (by omega) (by omega) hl (by rw [show (ra_g s90 179 17).toNat = (ra_g s 179 17).toNat + 1 by omega]; exact (tx_sp_s (by omega) (x4le_y (by omega))).symm.trans hw) (by first | omega | (unfold ra_in at *; omega)))
theorem l4_249_39 {n : Nat} {f : Nat → Int32} {d : Nat}  {σ : ra_V} (hpn : 0 ≤ ra_g σ 179 17 ∧ ra_g σ 179 17 ≤ ra_g σ 179 12 ∧ ra_g σ 179 12 ≤ 500) (hB : x4TR σ B bn) (hps : ra_g σ 179 17 = (ps : Nat)) (hpl : ps ≤ bn) : ∀ (s : ra_V) (hF : Fr (179) (180) σ s) (hk0 : s (187) = σ (187)) (hov : ∀ a, a ≠ 17 → a ≠ 18 → a ≠ 19 → a ≠ 20 → ra_g s 179 a = ra_g σ 179 a) (hnv : 0 ≤ ra_g s 179 17 ∧ ra_g s 179 17 ≤ ra_g s 179 12 ∧ ra_g s 179 12 ≤ 500 ∧ ra_g σ 179 17 ≤ ra_g s 179 17) (hz : tx_a B bn ps = (ra_g s 179 17).toNat), ra_P (g_Gs n f) g_sh 0 (d + 1) g_m_X8_advanceToken 39 [some (.index (179)), none] [] s (fun r9 s => rV r9 ∧ Fr (179) (180) σ s ∧ (∀ a, a ≠ 17 → a ≠ 18 → a ≠ 19 → a ≠ 20 → ra_g s 179 a = ra_g σ 179 a) ∧ (0 ≤ ra_g s 179 18 ∧ ra_g s 179 18 ≤ ra_g s 179 17 ∧ ra_g s 179 17 ≤ ra_g s 179 12 ∧ ra_g s 179 12 ≤ 500 ∧ 0 ≤ ra_g s 179 19 ∧ ra_g s 179 19 ≤ 999) ∧ (ra_g σ 179 17 ≤ ra_g s 179 17 ∧ (ra_g s 179 20 = 3 → ra_g σ 179 17 < ra_g s 179 17)) ∧ x4RTK B bn s (tx_a B bn ps)) := by
    intro s hF hk0 hov hnv hz
    have e12 := hov 12 (by decide) (by decide) (by decide) (by decide)
    have hB0 := hB
    obtain ⟨b1, b2, b3, b4⟩ := hB0
    refine ra_load rfl rfl rfl rfl ?_
    refine ra_load rfl rfl rfl rfl ?_
    refine ra_getI rfl lk_8_192 (Nat.zero_le _) sh_179 rfl ?_
    have hr14 : ra_in (ra_g s (179) 17) := (ra_in_g _ _ _)
    refine ra_putI rfl lk_8_198 (Nat.zero_le _) sh_179 rfl rfl ?_
    refine ra_newU hr14 (fun s15 hs15 hp16 hp16o => ?_)
    have hp16_12 := hp16o 12 (by decide)
    have hp16_17 := hp16o 17 (by decide)
    have hp16_19 := hp16o 19 (by decide)
    have hp16_20 := hp16o 20 (by decide)
    have hF17 := Fr_tr (lo := 179) (hi := 180) hF hs15 (by omega)
    have hk18 : s15 (187) = σ (187) := (hs15 (187) (by omega)).trans hk0
    refine ra_load rfl rfl rfl rfl ?_
    refine ra_load rfl rfl rfl rfl ?_
    refine ra_getI rfl lk_8_192 (Nat.zero_le _) sh_179 rfl ?_
    have hr19 : ra_in (ra_g s15 (179) 17) := (ra_in_g _ _ _)
    refine ra_cTp (s4_248 hr19 (x4TR_k (by omega) hk18 hB) (by first | assumption | rfl | omega)) rfl (ct_248 rfl lk_8_195 (Or.inl rfl) sh_179 (Nat.le_of_ble_eq_true rfl)) ?_
    have hr21 : ra_in (B (ra_g s15 (179) 17).toNat) := (x4TR_in (x4TR_k (by omega) hk18 hB))
    refine ra_store (L' := [_, _]) rfl rfl rfl (Nat.le_of_ble_eq_true rfl) rfl ?_
    refine ra_load rfl rfl rfl rfl ?_
    refine ra_iconst rfl ?_
    refine ra_putI rfl lk_8_201 (Nat.zero_le _) sh_179 rfl rfl ?_
    refine ra_newU (by first | omega | (unfold ra_in at *; omega)) (fun s22 hs22 hp23 hp23o => ?_)
    have hp23_12 := hp23o 12 (by decide)
    have hp23_17 := hp23o 17 (by decide)
    have hp23_18 := hp23o 18 (by decide)
    have hp23_20 := hp23o 20 (by decide)
    have hF24 := Fr_tr (lo := 179) (hi := 180) hF17 hs22 (by omega)
    have hk25 : s22 (187) = σ (187) := (hs22 (187) (by omega)).trans hk18
    refine ra_load rfl rfl rfl rfl ?_
    refine ra_iconst rfl ?_
    refine ra_icne rfl rfl hr21 (by first | omega | (unfold ra_in at *; omega)) (fun h26 => ?_) (fun h26 => ?_)
    · have hlt := x4TR_l hB (i := (ra_g s15 (179) 17).toNat) (by omega)
      refine ra_load rfl rfl rfl rfl ?_
      refine ra_i2l rfl hr21 ?_
      refine ra_ldc2 (z := 97) rfl lk_8_207 (by decide) ?_
      refine ra_ldc2 (z := 122) rfl lk_8_209 (by decide) ?_
      refine ra_cTp (sp_192 hr21 (by first | omega | (unfold ra_in at *; omega)) (by first | omega | (unfold ra_in at *; omega))) rfl (ct_192 rfl lk_8_63 (Or.inl rfl) (Nat.le_of_ble_eq_true rfl)) ?_
      refine ra_ifeqB rfl rfl (fun h28 => ?_) (fun h28 => ?_)
      · refine ra_load rfl rfl rfl rfl ?_
        refine ra_i2l rfl hr21 ?_
        refine ra_ldc2 (z := 48) rfl lk_8_211 (by decide) ?_
        refine ra_ldc2 (z := 57) rfl lk_8_213 (by decide) ?_
        refine ra_cTp (sp_192 hr21 (by first | omega | (unfold ra_in at *; omega)) (by first | omega | (unfold ra_in at *; omega))) rfl (ct_192 rfl lk_8_63 (Or.inl rfl) (Nat.le_of_ble_eq_true rfl)) ?_
        refine ra_ifeqB rfl rfl (fun h30 => ?_) (fun h30 => ?_)
        · refine ra_load rfl rfl rfl rfl ?_
          refine ra_load rfl rfl rfl rfl ?_
          refine ra_bipush rfl (by decide) ?_
          refine ra_icne rfl rfl hr21 (by first | omega | (unfold ra_in at *; omega)) (fun h31 => ?_) (fun h31 => ?_)
          · refine ra_iconst rfl ?_
            refine ra_putI rfl lk_8_204 (Nat.zero_le _) sh_179 rfl rfl ?_
            refine ra_newU (by first | omega | (unfold ra_in at *; omega)) (fun s32 hs32 hp33 hp33o => ?_)
            have hp33_12 := hp33o 12 (by decide)
            have hp33_17 := hp33o 17 (by decide)
            have hp33_18 := hp33o 18 (by decide)
            have hp33_19 := hp33o 19 (by decide)
            have hF34 := Fr_tr (lo := 179) (hi := 180) hF24 hs32 (by omega)
            have hk35 : s32 (187) = σ (187) := (hs32 (187) (by omega)).trans hk25
            refine ra_load rfl rfl rfl rfl ?_
            refine ra_dup rfl rfl ?_
            refine ra_getI rfl lk_8_192 (Nat.zero_le _) sh_179 rfl ?_
            have hr36 : ra_in (ra_g s32 (179) 17) := (ra_in_g _ _ _)
            refine ra_iconst rfl ?_
            refine ra_iadd rfl ?_
            refine ra_putI rfl lk_8_192 (Nat.zero_le _) sh_179 rfl rfl ?_
            refine ra_newU (by first | omega | (unfold ra_in at *; omega)) (fun s37 hs37 hp38 hp38o => ?_)
            have hp38_12 := hp38o 12 (by decide)
            have hp38_18 := hp38o 18 (by decide)
            have hp38_19 := hp38o 19 (by decide)
            have hp38_20 := hp38o 20 (by decide)
            have hF39 := Fr_tr (lo := 179) (hi := 180) hF34 hs37 (by omega)
            have hk40 : s37 (187) = σ (187) := (hs37 (187) (by omega)).trans hk35
            exact ra_return rfl rfl ⟨rfl, ⟨hF39, (fun a h17 h18 h19 h20 => ((hp38o a (by assumption)).trans ((hp33o a (by assumption)).trans ((hp23o a (by assumption)).trans ((hp16o a (by assumption)).trans (hov a h17 h18 h19 h20)))))), by omega, by omega, x4rtk_1 (by omega) (by omega) (by omega) (by rw [show tx_a B bn ps = (ra_g s15 (179) 17).toNat by omega]; exact x4le_n (by omega)) (by rw [show tx_a B bn ps = (ra_g s15 (179) 17).toNat by omega]; exact x4di_n (by omega)) (by rw [show tx_a B bn ps = (ra_g s15 (179) 17).toNat by omega]; constructor <;> intro q <;> omega)⟩⟩
          · refine ra_iconst rfl ?_
            refine ra_goto rfl rfl ?_
            refine ra_putI rfl lk_8_204 (Nat.zero_le _) sh_179 rfl rfl ?_
            refine ra_newU (by first | omega | (unfold ra_in at *; omega)) (fun s41 hs41 hp42 hp42o => ?_)
            have hp42_12 := hp42o 12 (by decide)
            have hp42_17 := hp42o 17 (by decide)
            have hp42_18 := hp42o 18 (by decide)
            have hp42_19 := hp42o 19 (by decide)
            have hF43 := Fr_tr (lo := 179) (hi := 180) hF24 hs41 (by omega)
            have hk44 : s41 (187) = σ (187) := (hs41 (187) (by omega)).trans hk25
            refine ra_load rfl rfl rfl rfl ?_
            refine ra_dup rfl rfl ?_
            refine ra_getI rfl lk_8_192 (Nat.zero_le _) sh_179 rfl ?_
            have hr45 : ra_in (ra_g s41 (179) 17) := (ra_in_g _ _ _)
            refine ra_iconst rfl ?_
            refine ra_iadd rfl ?_
            refine ra_putI rfl lk_8_192 (Nat.zero_le _) sh_179 rfl rfl ?_
            refine ra_newU (by first | omega | (unfold ra_in at *; omega)) (fun s46 hs46 hp47 hp47o => ?_)
            have hp47_12 := hp47o 12 (by decide)
            have hp47_18 := hp47o 18 (by decide)
            have hp47_19 := hp47o 19 (by decide)
            have hp47_20 := hp47o 20 (by decide)
            have hF48 := Fr_tr (lo := 179) (hi := 180) hF43 hs46 (by omega)
            have hk49 : s46 (187) = σ (187) := (hs46 (187) (by omega)).trans hk44
            exact ra_return rfl rfl ⟨rfl, ⟨hF48, (fun a h17 h18 h19 h20 => ((hp47o a (by assumption)).trans ((hp42o a (by assumption)).trans ((hp23o a (by assumption)).trans ((hp16o a (by assumption)).trans (hov a h17 h18 h19 h20)))))), by omega, by omega, x4rtk_1 (by omega) (by omega) (by omega) (by rw [show tx_a B bn ps = (ra_g s15 (179) 17).toNat by omega]; exact x4le_n (by omega)) (by rw [show tx_a B bn ps = (ra_g s15 (179) 17).toNat by omega]; exact x4di_n (by omega)) (by rw [show tx_a B bn ps = (ra_g s15 (179) 17).toNat by omega]; constructor <;> intro q <;> omega)⟩⟩
        · have hd : tx_le (B (tx_a B bn ps)) = false ∧ tx_di (B (tx_a B bn ps)) = true := by rw [show tx_a B bn ps = (ra_g s15 (179) 17).toNat by omega]; exact ⟨x4le_n (by omega), x4di_y (by omega)⟩
          refine ra_load rfl rfl rfl rfl ?_
          refine ra_iconst rfl ?_
          refine ra_putI rfl lk_8_204 (Nat.zero_le _) sh_179 rfl rfl ?_
          refine ra_newU (by first | omega | (unfold ra_in at *; omega)) (fun s50 hs50 hp51 hp51o => ?_)
          have hp51_12 := hp51o 12 (by decide)
          have hp51_17 := hp51o 17 (by decide)
          have hp51_18 := hp51o 18 (by decide)
          have hp51_19 := hp51o 19 (by decide)
          have hF52 := Fr_tr (lo := 179) (hi := 180) hF24 hs50 (by omega)
          have hk53 : s50 (187) = σ (187) := (hs50 (187) (by omega)).trans hk25
          exact ra_weak (by repeat' constructor) (l4_249_146 hpn hB hps hpl _ s50 hF52 hk53 (fun a h17 h18 h19 h20 => ((hp51o a (by assumption)).trans ((hp23o a (by assumption)).trans ((hp16o a (by assumption)).trans (hov a h17 h18 h19 h20))))) (by omega) (by omega) hd (by rw [show (ra_g s50 179 17).toNat = tx_a B bn ps by omega]) (by rw [show (ra_g s50 179 17).toNat - tx_a B bn ps = 0 by omega]; show _ = (0 : Int); omega) (Nat.lt_succ_self _))
      · have hl : tx_le (B (tx_a B bn ps)) = true := by rw [show tx_a B bn ps = (ra_g s15 (179) 17).toNat by omega]; exact x4le_y (by omega)
        refine ra_load rfl rfl rfl rfl ?_
        refine ra_iconst rfl ?_
        refine ra_putI rfl lk_8_204 (Nat.zero_le _) sh_179 rfl rfl ?_
        refine ra_newU (by first | omega | (unfold ra_in at *; omega)) (fun s80 hs80 hp81 hp81o => ?_)
        have hp81_12 := hp81o 12 (by decide)
        have hp81_17 := hp81o 17 (by decide)
        have hp81_18 := hp81o 18 (by decide)
        have hp81_19 := hp81o 19 (by decide)
        have hF82 := Fr_tr (lo := 179) (hi := 180) hF24 hs80 (by omega)
        have hk83 : s80 (187) = σ (187) := (hs80 (187) (by omega)).trans hk25
        exact ra_weak (by repeat' constructor) (l4_249_93 hpn hB hps hpl _ s80 hF82 hk83 (fun a h17 h18 h19 h20 => ((hp81o a (by assumption)).trans ((hp23o a (by assumption)).trans ((hp16o a (by assumption)).trans (hov a h17 h18 h19 h20))))) (by omega) (by omega) hl (by rw [show (ra_g s80 179 17).toNat = tx_a B bn ps by omega]) (Nat.lt_succ_self _))
    · have hbe := x4TR_e hB (i := (ra_g s15 (179) 17).toNat) (by omega)
      refine ra_load rfl rfl rfl rfl ?_
      refine ra_iconst rfl ?_
      refine ra_putI rfl lk_8_204 (Nat.zero_le _) sh_179 rfl rfl ?_
      refine ra_newU (by first | omega | (unfold ra_in at *; omega)) (fun s94 hs94 hp95 hp95o => ?_)
      have hp95_12 := hp95o 12 (by decide)
      have hp95_17 := hp95o 17 (by decide)
      have hp95_18 := hp95o 18 (by decide)
      have hp95_19 := hp95o 19 (by decide)
      have hF96 := Fr_tr (lo := 179) (hi := 180) hF24 hs94 (by omega)
      have hk97 : s94 (187) = σ (187) := (hs94 (187) (by omega)).trans hk25
      refine ra_goto rfl rfl ?_
      exact ra_return rfl rfl ⟨rfl, ⟨hF96, (fun a h17 h18 h19 h20 => ((hp95o a (by assumption)).trans ((hp23o a (by assumption)).trans ((hp16o a (by assumption)).trans (hov a h17 h18 h19 h20))))), by omega, by omega, x4rtk_0 (by omega) (by omega) (by omega) (by omega) (by omega)⟩⟩
theorem l4_249_0 {n : Nat} {f : Nat → Int32} {d : Nat}  {σ : ra_V} (hpn : 0 ≤ ra_g σ 179 17 ∧ ra_g σ 179 17 ≤ ra_g σ 179 12 ∧ ra_g σ 179 12 ≤ 500) (hB : x4TR σ B bn) (hps : ra_g σ 179 17 = (ps : Nat)) (hpl : ps ≤ bn) : ∀ (nn : Nat) (s : ra_V) (hF : Fr (179) (180) σ s) (hk0 : s (187) = σ (187)) (hov : ∀ a, a ≠ 17 → a ≠ 18 → a ≠ 19 → a ≠ 20 → ra_g s 179 a = ra_g σ 179 a) (hnv : 0 ≤ ra_g s 179 17 ∧ ra_g s 179 17 ≤ ra_g s 179 12 ∧ ra_g s 179 12 ≤ 500 ∧ ra_g σ 179 17 ≤ ra_g s 179 17) (ha : tx_a B bn (ra_g s 179 17).toNat = tx_a B bn ps) (hm : ((501 - ra_g s 179 17 : Int)).toNat < nn), ra_P (g_Gs n f) g_sh 0 (d + 1) g_m_X8_advanceToken 0 [some (.index (179)), none] [] s (fun r9 s => rV r9 ∧ Fr (179) (180) σ s ∧ (∀ a, a ≠ 17 → a ≠ 18 → a ≠ 19 → a ≠ 20 → ra_g s 179 a = ra_g σ 179 a) ∧ (0 ≤ ra_g s 179 18 ∧ ra_g s 179 18 ≤ ra_g s 179 17 ∧ ra_g s 179 17 ≤ ra_g s 179 12 ∧ ra_g s 179 12 ≤ 500 ∧ 0 ≤ ra_g s 179 19 ∧ ra_g s 179 19 ≤ 999) ∧ (ra_g σ 179 17 ≤ ra_g s 179 17 ∧ (ra_g s 179 20 = 3 → ra_g σ 179 17 < ra_g s 179 17)) ∧ x4RTK B bn s (tx_a B bn ps)) := by
  intro nn
  induction nn with
  | zero => intro s hF hk0 hov hnv ha hm; exact absurd hm (Nat.not_lt_zero _)
  | succ nn ih =>
    intro s hF hk0 hov hnv ha hm
    have e12 := hov 12 (by decide) (by decide) (by decide) (by decide)
    have hB0 := hB
    obtain ⟨b1, b2, b3, b4⟩ := hB0
    refine ra_load rfl rfl rfl rfl ?_
    refine ra_load rfl rfl rfl rfl ?_
    refine ra_getI rfl lk_8_192 (Nat.zero_le _) sh_179 rfl ?_
    have hr1 : ra_in (ra_g s (179) 17) := (ra_in_g _ _ _)
    refine ra_cTp (s4_248 hr1 (x4TR_k (by omega) hk0 hB) (by first | assumption | rfl | omega)) rfl (ct_248 rfl lk_8_195 (Or.inl rfl) sh_179 (Nat.le_of_ble_eq_true rfl)) ?_
    have hr3 : ra_in (B (ra_g s (179) 17).toNat) := (x4TR_in (x4TR_k (by omega) hk0 hB))
    refine ra_bipush rfl (by decide) ?_
    refine ra_iceq rfl rfl hr3 (by first | omega | (unfold ra_in at *; omega)) (fun h4 => ?_) (fun h4 => ?_)
    · have hlt := x4TR_l hB (i := (ra_g s 179 17).toNat) (by omega)
      refine ra_load rfl rfl rfl rfl ?_
      refine ra_dup rfl rfl ?_
      refine ra_getI rfl lk_8_192 (Nat.zero_le _) sh_179 rfl ?_
      have hr5 : ra_in (ra_g s (179) 17) := (ra_in_g _ _ _)
      refine ra_iconst rfl ?_
      refine ra_iadd rfl ?_
      refine ra_putI rfl lk_8_192 (Nat.zero_le _) sh_179 rfl rfl ?_
      refine ra_newU (by first | omega | (unfold ra_in at *; omega)) (fun s6 hs6 hp7 hp7o => ?_)
      have hp7_12 := hp7o 12 (by decide)
      have hp7_18 := hp7o 18 (by decide)
      have hp7_19 := hp7o 19 (by decide)
      have hp7_20 := hp7o 20 (by decide)
      have hF8 := Fr_tr (lo := 179) (hi := 180) hF hs6 (by omega)
      have hk9 : s6 (187) = σ (187) := (hs6 (187) (by omega)).trans hk0
      refine ra_goto rfl rfl ?_
      exact ra_weak (by repeat' constructor) (ih s6 hF8 hk9 (fun a h17 h18 h19 h20 => ((hp7o a (by assumption)).trans (hov a h17 h18 h19 h20))) (by omega) (by rw [show (ra_g s6 179 17).toNat = (ra_g s 179 17).toNat + 1 by omega]; exact (tx_sp_s (by omega) (x4bl_y (by omega))).symm.trans ha) (by first | omega | (unfold ra_in at *; omega)))
    · refine ra_load rfl rfl rfl rfl ?_
      refine ra_load rfl rfl rfl rfl ?_
      refine ra_getI rfl lk_8_192 (Nat.zero_le _) sh_179 rfl ?_
      have hr10 : ra_in (ra_g s (179) 17) := (ra_in_g _ _ _)
      refine ra_cTp (s4_248 hr10 (x4TR_k (by omega) hk0 hB) (by first | assumption | rfl | omega)) rfl (ct_248 rfl lk_8_195 (Or.inl rfl) sh_179 (Nat.le_of_ble_eq_true rfl)) ?_
      have hr12 : ra_in (B (ra_g s (179) 17).toNat) := (x4TR_in (x4TR_k (by omega) hk0 hB))
      refine ra_bipush rfl (by decide) ?_
      refine ra_icne rfl rfl hr12 (by first | omega | (unfold ra_in at *; omega)) (fun h13 => ?_) (fun h13 => ?_)
      · exact ra_weak (by repeat' constructor) (l4_249_39 hpn hB hps hpl s hF hk0 (fun a h17 h18 h19 h20 => (hov a h17 h18 h19 h20)) (by omega) (ha.symm.trans (tx_sp_e (x4bl_n (by omega) (by omega)))))
      · have hlt := x4TR_l hB (i := (ra_g s 179 17).toNat) (by omega)
        refine ra_load rfl rfl rfl rfl ?_
        refine ra_dup rfl rfl ?_
        refine ra_getI rfl lk_8_192 (Nat.zero_le _) sh_179 rfl ?_
        have hr98 : ra_in (ra_g s (179) 17) := (ra_in_g _ _ _)
        refine ra_iconst rfl ?_
        refine ra_iadd rfl ?_
        refine ra_putI rfl lk_8_192 (Nat.zero_le _) sh_179 rfl rfl ?_
        refine ra_newU (by first | omega | (unfold ra_in at *; omega)) (fun s99 hs99 hp100 hp100o => ?_)
        have hp100_12 := hp100o 12 (by decide)
        have hp100_18 := hp100o 18 (by decide)
        have hp100_19 := hp100o 19 (by decide)
        have hp100_20 := hp100o 20 (by decide)
        have hF101 := Fr_tr (lo := 179) (hi := 180) hF hs99 (by omega)
        have hk102 : s99 (187) = σ (187) := (hs99 (187) (by omega)).trans hk0
        refine ra_goto rfl rfl ?_
        exact ra_weak (by repeat' constructor) (ih s99 hF101 hk102 (fun a h17 h18 h19 h20 => ((hp100o a (by assumption)).trans (hov a h17 h18 h19 h20))) (by omega) (by rw [show (ra_g s99 179 17).toNat = (ra_g s 179 17).toNat + 1 by omega]; exact (tx_sp_s (by omega) (x4bl_y (by omega))).symm.trans ha) (by first | omega | (unfold ra_in at *; omega)))
theorem s4_249 {n : Nat} {f : Nat → Int32} {d : Nat}  {σ : ra_V} (hpn : 0 ≤ ra_g σ 179 17 ∧ ra_g σ 179 17 ≤ ra_g σ 179 12 ∧ ra_g σ 179 12 ≤ 500) (hB : x4TR σ B bn) (hps : ra_g σ 179 17 = (ps : Nat)) (hpl : ps ≤ bn) : ra_C (g_Gs n f) g_sh 0 (d + 2) 249 [.index (179)] σ (fun r9 s => rV r9 ∧ Fr (179) (180) σ s ∧ (∀ a, a ≠ 17 → a ≠ 18 → a ≠ 19 → a ≠ 20 → ra_g s 179 a = ra_g σ 179 a) ∧ (0 ≤ ra_g s 179 18 ∧ ra_g s 179 18 ≤ ra_g s 179 17 ∧ ra_g s 179 17 ≤ ra_g s 179 12 ∧ ra_g s 179 12 ≤ 500 ∧ 0 ≤ ra_g s 179 19 ∧ ra_g s 179 19 ≤ 999) ∧ (ra_g σ 179 17 ≤ ra_g s 179 17 ∧ (ra_g s 179 20 = 3 → ra_g σ 179 17 < ra_g s 179 17)) ∧ x4RTK B bn s (tx_a B bn ps)) := by
  refine ra_enter (nn := 1) mt_249 rfl (Nat.le_of_ble_eq_true rfl) rfl (fun h => absurd h (by decide +kernel)) ?_
  have hB0 := hB
  obtain ⟨b1, b2, b3, b4⟩ := hB0
  exact ra_weak (by repeat' constructor) (l4_249_0 hpn hB hps hpl _ σ Fr_rf rfl (fun a h17 h18 h19 h20 => rfl) (by omega) (by rw [show (ra_g σ 179 17).toNat = ps by omega]) (Nat.lt_succ_self _))
end
