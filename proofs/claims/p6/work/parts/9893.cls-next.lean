/-! T4: what the class's methods that read a text do (printed by wip/gen/c4.py) -/
section
variable {B : Nat → Int} {bn ps ta : Nat} {pk uv al : Int} {r : Nat → Int}
theorem s4_108 {n : Nat} {f : Nat → Int32} {d : Nat} {x0 : Int} {σ : ra_V} (hx0 : ra_in x0) (hB : x4TB σ B bn) (h0 : 0 ≤ x0) : ra_C (g_Gs n f) g_sh 0 (d + 1) 108 [.index (175), ra_I x0] σ (fun r9 s => r9 = .inl (some (ra_I (B x0.toNat))) ∧ s = σ) := by
  refine ra_enter (nn := 0) mt_108 rfl (Nat.le_of_ble_eq_true rfl) rfl (fun h => absurd h (by decide +kernel)) ?_
  have hB0 := hB
  obtain ⟨b1, b2, b3, b4⟩ := hB0
  refine ra_load rfl rfl rfl rfl ?_
  refine ra_iflt rfl rfl hx0 (fun h1 => ?_) (fun h1 => ?_)
  · refine ra_iconst rfl ?_
    refine ra_goto rfl rfl ?_
    exact ra_ireturn rfl rfl ⟨(congrArg (fun z => Sum.inl (some (ra_I z))) (by first | exact x4TB_n hB (by omega) | exact x4TB_y hB (by omega) (by omega))), rfl⟩
  · refine ra_load rfl rfl rfl rfl ?_
    refine ra_load rfl rfl rfl rfl ?_
    refine ra_getI rfl lk_6_22 (Nat.zero_le _) sh_175 rfl ?_
    have hr2 : ra_in (ra_g σ (175) 1) := (ra_in_g _ _ _)
    refine ra_icge rfl rfl hx0 hr2 (fun h3 => ?_) (fun h3 => ?_)
    · refine ra_iconst rfl ?_
      refine ra_goto rfl rfl ?_
      exact ra_ireturn rfl rfl ⟨(congrArg (fun z => Sum.inl (some (ra_I z))) (by first | exact x4TB_n hB (by omega) | exact x4TB_y hB (by omega) (by omega))), rfl⟩
    · refine ra_load rfl rfl rfl rfl ?_
      refine ra_load rfl rfl rfl rfl ?_
      refine ra_getR rfl lk_6_9 (Nat.zero_le _) sh_175 rfl ?_
      refine ra_alen rfl sh_176 rfl ?_
      refine ra_iclt rfl rfl hx0 (by first | omega | (unfold ra_in at *; omega)) (fun h4 => ?_) (fun h4 => ?_)
      · refine ra_load rfl rfl rfl rfl ?_
        refine ra_getR rfl lk_6_9 (Nat.zero_le _) sh_175 rfl ?_
        refine ra_load rfl rfl rfl rfl ?_
        refine ra_iaload rfl sh_176 rfl (by decide) (by first | omega | (unfold ra_in at *; omega)) (by first | omega | (unfold ra_in at *; omega)) ?_
        have hr5 : ra_in (ra_g σ (176) x0.toNat) := (ra_in_g _ _ _)
        exact ra_ireturn rfl rfl ⟨(congrArg (fun z => Sum.inl (some (ra_I z))) (by first | exact x4TB_n hB (by omega) | exact x4TB_y hB (by omega) (by omega))), rfl⟩
      · refine ra_iconst rfl ?_
        refine ra_goto rfl rfl ?_
        exact ra_ireturn rfl rfl ⟨(congrArg (fun z => Sum.inl (some (ra_I z))) (by first | exact x4TB_n hB (by omega) | exact x4TB_y hB (by omega) (by omega))), rfl⟩
theorem s4_109 {n : Nat} {f : Nat → Int32} {d : Nat} {x0 : Int} {σ : ra_V} (hx0 : ra_in x0) : ra_C (g_Gs n f) g_sh 0 (d + 1) 109 [ra_I x0] σ (fun r9 s => r9 = .inl (some (ra_B (97 ≤ x0 ∧ x0 ≤ 122))) ∧ s = σ) := by
  refine ra_enter (nn := 0) mt_109 rfl (Nat.le_of_ble_eq_true rfl) rfl (fun h => absurd h (by decide +kernel)) ?_
  refine ra_load rfl rfl rfl rfl ?_
  refine ra_bipush rfl (by decide) ?_
  refine ra_iclt rfl rfl hx0 (by first | omega | (unfold ra_in at *; omega)) (fun h1 => ?_) (fun h1 => ?_)
  · refine ra_iconst rfl ?_
    exact ra_ireturn rfl (ra_okB (Or.inl rfl)) ⟨(by unfold ra_B; rw [if_neg (by omega)]), rfl⟩
  · refine ra_load rfl rfl rfl rfl ?_
    refine ra_bipush rfl (by decide) ?_
    refine ra_icgt rfl rfl hx0 (by first | omega | (unfold ra_in at *; omega)) (fun h2 => ?_) (fun h2 => ?_)
    · refine ra_iconst rfl ?_
      exact ra_ireturn rfl (ra_okB (Or.inl rfl)) ⟨(by unfold ra_B; rw [if_neg (by omega)]), rfl⟩
    · refine ra_iconst rfl ?_
      refine ra_goto rfl rfl ?_
      exact ra_ireturn rfl (ra_okB (Or.inr rfl)) ⟨(by unfold ra_B; rw [if_pos (by omega)]), rfl⟩
theorem s4_110 {n : Nat} {f : Nat → Int32} {d : Nat} {x0 : Int} {σ : ra_V} (hx0 : ra_in x0) : ra_C (g_Gs n f) g_sh 0 (d + 1) 110 [ra_I x0] σ (fun r9 s => r9 = .inl (some (ra_B (48 ≤ x0 ∧ x0 ≤ 57))) ∧ s = σ) := by
  refine ra_enter (nn := 0) mt_110 rfl (Nat.le_of_ble_eq_true rfl) rfl (fun h => absurd h (by decide +kernel)) ?_
  refine ra_load rfl rfl rfl rfl ?_
  refine ra_bipush rfl (by decide) ?_
  refine ra_iclt rfl rfl hx0 (by first | omega | (unfold ra_in at *; omega)) (fun h1 => ?_) (fun h1 => ?_)
  · refine ra_iconst rfl ?_
    exact ra_ireturn rfl (ra_okB (Or.inl rfl)) ⟨(by unfold ra_B; rw [if_neg (by omega)]), rfl⟩
  · refine ra_load rfl rfl rfl rfl ?_
    refine ra_bipush rfl (by decide) ?_
    refine ra_icgt rfl rfl hx0 (by first | omega | (unfold ra_in at *; omega)) (fun h2 => ?_) (fun h2 => ?_)
    · refine ra_iconst rfl ?_
      exact ra_ireturn rfl (ra_okB (Or.inl rfl)) ⟨(by unfold ra_B; rw [if_neg (by omega)]), rfl⟩
    · refine ra_iconst rfl ?_
      refine ra_goto rfl rfl ?_
      exact ra_ireturn rfl (ra_okB (Or.inr rfl)) ⟨(by unfold ra_B; rw [if_pos (by omega)]), rfl⟩
theorem l4_111_250 {n : Nat} {f : Nat → Int32} {d : Nat}  {σ : ra_V} (hB : x4TB σ B bn) (hps : ra_g σ 175 4 = (ps : Nat)) (hpl : ps ≤ bn) : ∀ (s : ra_V) (hF : Fr (175) (177) σ s) (hk0 : s (176) = σ (176)) (he7 : ra_g s 175 1 = ra_g σ 175 1 ∧ ra_g s 175 2 = ra_g σ 175 2 ∧ ra_g s 175 3 = ra_g σ 175 3 ∧ ra_g s 175 8 = ra_g σ 175 8 ∧ ra_g s 175 9 = ra_g σ 175 9 ∧ ra_g s 175 10 = ra_g σ 175 10 ∧ ra_g s 175 11 = ra_g σ 175 11) (hs : ra_g s 175 6 = (tx_a B bn ps : Nat) ∧ tx_a B bn ps < bn ∧ (tx_a B bn ps : Int) < ra_g s 175 4 ∧ ra_g s 175 4 ≤ bn) (hd : tx_le (B (tx_a B bn ps)) = false ∧ tx_di (B (tx_a B bn ps)) = true) (hw : ra_g s 175 4 = (tx_sp tx_di B bn (tx_a B bn ps) : Nat)) (hv : ra_g s 175 7 = tx_v B (tx_a B bn ps) (Nat.min 3 ((ra_g s 175 4).toNat - tx_a B bn ps))), ra_P (g_Gs n f) g_sh 0 (d + 1) g_m_X6_next 250 [some (.index (175)), none] [] s (fun r9 s => rV r9 ∧ Fr (175) (177) σ s ∧ s (176) = σ (176) ∧ (ra_g s 175 1 = ra_g σ 175 1 ∧ ra_g s 175 2 = ra_g σ 175 2 ∧ ra_g s 175 3 = ra_g σ 175 3 ∧ ra_g s 175 8 = ra_g σ 175 8 ∧ ra_g s 175 9 = ra_g σ 175 9 ∧ ra_g s 175 10 = ra_g σ 175 10 ∧ ra_g s 175 11 = ra_g σ 175 11) ∧ x4NXC B bn s (tx_a B bn ps)) := by
    intro s hF hk0 he7 hs hd hw hv
    have hB0 := hB
    obtain ⟨b1, b2, b3, b4⟩ := hB0
    refine ra_load rfl rfl rfl rfl ?_
    refine ra_load rfl rfl rfl rfl ?_
    refine ra_getI rfl lk_6_25 (Nat.zero_le _) sh_175 rfl ?_
    have hr31 : ra_in (ra_g s (175) 4) := (ra_in_g _ _ _)
    refine ra_load rfl rfl rfl rfl ?_
    refine ra_getI rfl lk_6_137 (Nat.zero_le _) sh_175 rfl ?_
    have hr32 : ra_in (ra_g s (175) 6) := (ra_in_g _ _ _)
    refine ra_isub rfl ?_
    refine ra_iconst rfl ?_
    refine ra_icle rfl rfl (by first | omega | (unfold ra_in at *; omega)) (by first | omega | (unfold ra_in at *; omega)) (fun h33 => ?_) (fun h33 => ?_)
    · refine ra_iconst rfl ?_
      refine ra_putI rfl lk_6_71 (Nat.zero_le _) sh_175 rfl rfl ?_
      refine ra_newU (by first | omega | (unfold ra_in at *; omega)) (fun s34 hs34 hp35 hp35o => ?_)
      have hp35_1 := hp35o 1 (by decide)
      have hp35_2 := hp35o 2 (by decide)
      have hp35_3 := hp35o 3 (by decide)
      have hp35_4 := hp35o 4 (by decide)
      have hp35_6 := hp35o 6 (by decide)
      have hp35_7 := hp35o 7 (by decide)
      have hp35_8 := hp35o 8 (by decide)
      have hp35_9 := hp35o 9 (by decide)
      have hp35_10 := hp35o 10 (by decide)
      have hp35_11 := hp35o 11 (by decide)
      have hF36 := Fr_tr (lo := 175) (hi := 177) hF hs34 (by omega)
      have hk37 : s34 (176) = σ (176) := (hs34 (176) (by omega)).trans hk0
      exact ra_return rfl rfl ⟨rfl, ⟨hF36, hk37, by omega, x4nxc_n (by omega) (by omega) (by omega) hd.1 hd.2 (by constructor <;> intro q <;> omega) (by rw [show tx_sp tx_di B bn (tx_a B bn ps) = (ra_g s 175 4).toNat by omega]; omega)⟩⟩
    · refine ra_iconst rfl ?_
      refine ra_goto rfl rfl ?_
      refine ra_putI rfl lk_6_71 (Nat.zero_le _) sh_175 rfl rfl ?_
      refine ra_newU (by first | omega | (unfold ra_in at *; omega)) (fun s38 hs38 hp39 hp39o => ?_)
      have hp39_1 := hp39o 1 (by decide)
      have hp39_2 := hp39o 2 (by decide)
      have hp39_3 := hp39o 3 (by decide)
      have hp39_4 := hp39o 4 (by decide)
      have hp39_6 := hp39o 6 (by decide)
      have hp39_7 := hp39o 7 (by decide)
      have hp39_8 := hp39o 8 (by decide)
      have hp39_9 := hp39o 9 (by decide)
      have hp39_10 := hp39o 10 (by decide)
      have hp39_11 := hp39o 11 (by decide)
      have hF40 := Fr_tr (lo := 175) (hi := 177) hF hs38 (by omega)
      have hk41 : s38 (176) = σ (176) := (hs38 (176) (by omega)).trans hk0
      exact ra_return rfl rfl ⟨rfl, ⟨hF40, hk41, by omega, x4nxc_n (by omega) (by omega) (by omega) hd.1 hd.2 (by constructor <;> intro q <;> omega) (by rw [show tx_sp tx_di B bn (tx_a B bn ps) = (ra_g s 175 4).toNat by omega]; omega)⟩⟩
theorem l4_111_176 {n : Nat} {f : Nat → Int32} {d : Nat}  {σ : ra_V} (hB : x4TB σ B bn) (hps : ra_g σ 175 4 = (ps : Nat)) (hpl : ps ≤ bn) : ∀ (nn : Nat) (s : ra_V) (hF : Fr (175) (177) σ s) (hk0 : s (176) = σ (176)) (he7 : ra_g s 175 1 = ra_g σ 175 1 ∧ ra_g s 175 2 = ra_g σ 175 2 ∧ ra_g s 175 3 = ra_g σ 175 3 ∧ ra_g s 175 8 = ra_g σ 175 8 ∧ ra_g s 175 9 = ra_g σ 175 9 ∧ ra_g s 175 10 = ra_g σ 175 10 ∧ ra_g s 175 11 = ra_g σ 175 11) (hq : 0 ≤ ra_g s 175 4 ∧ ra_g s 175 4 ≤ bn) (hs : ra_g s 175 6 = (tx_a B bn ps : Nat) ∧ tx_a B bn ps < bn ∧ (tx_a B bn ps : Int) < ra_g s 175 4) (hd : tx_le (B (tx_a B bn ps)) = false ∧ tx_di (B (tx_a B bn ps)) = true) (hw : tx_sp tx_di B bn (ra_g s 175 4).toNat = tx_sp tx_di B bn (tx_a B bn ps)) (hv : ra_g s 175 7 = tx_v B (tx_a B bn ps) (Nat.min 3 ((ra_g s 175 4).toNat - tx_a B bn ps))) (hb : 0 ≤ ra_g s 175 7 ∧ ra_g s 175 7 ≤ 999 ∧ (ra_g s 175 4 - ra_g s 175 6 ≤ 1 → ra_g s 175 7 ≤ 9) ∧ (ra_g s 175 4 - ra_g s 175 6 ≤ 2 → ra_g s 175 7 ≤ 99)) (hm : ((ra_g s 175 1 - ra_g s 175 4 : Int)).toNat < nn), ra_P (g_Gs n f) g_sh 0 (d + 1) g_m_X6_next 176 [some (.index (175)), none] [] s (fun r9 s => rV r9 ∧ Fr (175) (177) σ s ∧ s (176) = σ (176) ∧ (ra_g s 175 1 = ra_g σ 175 1 ∧ ra_g s 175 2 = ra_g σ 175 2 ∧ ra_g s 175 3 = ra_g σ 175 3 ∧ ra_g s 175 8 = ra_g σ 175 8 ∧ ra_g s 175 9 = ra_g σ 175 9 ∧ ra_g s 175 10 = ra_g σ 175 10 ∧ ra_g s 175 11 = ra_g σ 175 11) ∧ x4NXC B bn s (tx_a B bn ps)) := by
  intro nn
  induction nn with
  | zero => intro s hF hk0 he7 hq hs hd hw hv hb hm; exact absurd hm (Nat.not_lt_zero _)
  | succ nn ih =>
    intro s hF hk0 he7 hq hs hd hw hv hb hm
    have hB0 := hB
    obtain ⟨b1, b2, b3, b4⟩ := hB0
    refine ra_load rfl rfl rfl rfl ?_
    refine ra_getI rfl lk_6_25 (Nat.zero_le _) sh_175 rfl ?_
    have hr28 : ra_in (ra_g s (175) 4) := (ra_in_g _ _ _)
    refine ra_load rfl rfl rfl rfl ?_
    refine ra_getI rfl lk_6_22 (Nat.zero_le _) sh_175 rfl ?_
    have hr29 : ra_in (ra_g s (175) 1) := (ra_in_g _ _ _)
    refine ra_icge rfl rfl hr28 hr29 (fun h30 => ?_) (fun h30 => ?_)
    · exact ra_weak (by repeat' constructor) (l4_111_250 hB hps hpl s hF hk0 (by omega) (by omega) hd (by rw [← hw]; first | (rw [tx_sp_0 (by omega)]; omega) | (rw [tx_sp_e (x4di_n (by omega))]; omega)) hv)
    · refine ra_load rfl rfl rfl rfl ?_
      refine ra_load rfl rfl rfl rfl ?_
      refine ra_getI rfl lk_6_25 (Nat.zero_le _) sh_175 rfl ?_
      have hr42 : ra_in (ra_g s (175) 4) := (ra_in_g _ _ _)
      refine ra_cTp (s4_108 hr42 (x4TB_k (by omega) hk0 hB) (by first | assumption | rfl | omega)) rfl (ct_108 rfl lk_6_140 (Or.inl rfl) sh_175 (Nat.le_of_ble_eq_true rfl)) ?_
      have hr44 : ra_in (B (ra_g s (175) 4).toNat) := (x4TB_in (x4TB_k (by omega) hk0 hB))
      refine ra_cTp (s4_110 hr44) rfl (ct_110 rfl lk_6_147 (Or.inl rfl) (Nat.le_of_ble_eq_true rfl)) ?_
      refine ra_ifeqB rfl rfl (fun h46 => ?_) (fun h46 => ?_)
      · exact ra_weak (by repeat' constructor) (l4_111_250 hB hps hpl s hF hk0 (by omega) (by omega) hd (by rw [← hw]; first | (rw [tx_sp_0 (by omega)]; omega) | (rw [tx_sp_e (x4di_n (by omega))]; omega)) hv)
      · refine ra_load rfl rfl rfl rfl ?_
        refine ra_getI rfl lk_6_25 (Nat.zero_le _) sh_175 rfl ?_
        have hr47 : ra_in (ra_g s (175) 4) := (ra_in_g _ _ _)
        refine ra_load rfl rfl rfl rfl ?_
        refine ra_getI rfl lk_6_137 (Nat.zero_le _) sh_175 rfl ?_
        have hr48 : ra_in (ra_g s (175) 6) := (ra_in_g _ _ _)
        refine ra_isub rfl ?_
        refine ra_iconst rfl ?_
        refine ra_icge rfl rfl (by first | omega | (unfold ra_in at *; omega)) (by first | omega | (unfold ra_in at *; omega)) (fun h49 => ?_) (fun h49 => ?_)
        · refine ra_load rfl rfl rfl rfl ?_
          refine ra_dup rfl rfl ?_
          refine ra_getI rfl lk_6_25 (Nat.zero_le _) sh_175 rfl ?_
          have hr50 : ra_in (ra_g s (175) 4) := (ra_in_g _ _ _)
          refine ra_iconst rfl ?_
          refine ra_iadd rfl ?_
          refine ra_putI rfl lk_6_25 (Nat.zero_le _) sh_175 rfl rfl ?_
          refine ra_newU (by first | omega | (unfold ra_in at *; omega)) (fun s51 hs51 hp52 hp52o => ?_)
          have hp52_1 := hp52o 1 (by decide)
          have hp52_2 := hp52o 2 (by decide)
          have hp52_3 := hp52o 3 (by decide)
          have hp52_5 := hp52o 5 (by decide)
          have hp52_6 := hp52o 6 (by decide)
          have hp52_7 := hp52o 7 (by decide)
          have hp52_8 := hp52o 8 (by decide)
          have hp52_9 := hp52o 9 (by decide)
          have hp52_10 := hp52o 10 (by decide)
          have hp52_11 := hp52o 11 (by decide)
          have hF53 := Fr_tr (lo := 175) (hi := 177) hF hs51 (by omega)
          have hk54 : s51 (176) = σ (176) := (hs51 (176) (by omega)).trans hk0
          refine ra_goto rfl rfl ?_
          exact ra_weak (by repeat' constructor) (ih s51 hF53 hk54 (by omega) (by omega) (by omega) hd (by rw [show (ra_g s51 175 4).toNat = (ra_g s 175 4).toNat + 1 by omega]; exact (tx_sp_s (by omega) (x4di_y (by omega))).symm.trans hw) (by rw [show (ra_g s51 175 4).toNat - tx_a B bn ps = ((ra_g s 175 4).toNat - tx_a B bn ps) + 1 by omega]; have q := x4tv_n (x := ra_g s 175 7) (by omega) hv; omega) (by omega) (by first | omega | (unfold ra_in at *; omega)))
        · refine ra_load rfl rfl rfl rfl ?_
          refine ra_load rfl rfl rfl rfl ?_
          refine ra_getI rfl lk_6_58 (Nat.zero_le _) sh_175 rfl ?_
          have hr55 : ra_in (ra_g s (175) 7) := (ra_in_g _ _ _)
          refine ra_bipush rfl (by decide) ?_
          refine ra_imul rfl ?_
          refine ra_load rfl rfl rfl rfl ?_
          refine ra_load rfl rfl rfl rfl ?_
          refine ra_getI rfl lk_6_25 (Nat.zero_le _) sh_175 rfl ?_
          have hr56 : ra_in (ra_g s (175) 4) := (ra_in_g _ _ _)
          refine ra_cTp (s4_108 hr56 (x4TB_k (by omega) hk0 hB) (by first | assumption | rfl | omega)) rfl (ct_108 rfl lk_6_140 (Or.inl rfl) sh_175 (Nat.le_of_ble_eq_true rfl)) ?_
          have hr58 : ra_in (B (ra_g s (175) 4).toNat) := (x4TB_in (x4TB_k (by omega) hk0 hB))
          refine ra_iadd rfl ?_
          refine ra_bipush rfl (by decide) ?_
          refine ra_isub rfl ?_
          refine ra_putI rfl lk_6_58 (Nat.zero_le _) sh_175 rfl rfl ?_
          refine ra_newU (by first | omega | (unfold ra_in at *; omega)) (fun s59 hs59 hp60 hp60o => ?_)
          have hp60_1 := hp60o 1 (by decide)
          have hp60_2 := hp60o 2 (by decide)
          have hp60_3 := hp60o 3 (by decide)
          have hp60_4 := hp60o 4 (by decide)
          have hp60_5 := hp60o 5 (by decide)
          have hp60_6 := hp60o 6 (by decide)
          have hp60_8 := hp60o 8 (by decide)
          have hp60_9 := hp60o 9 (by decide)
          have hp60_10 := hp60o 10 (by decide)
          have hp60_11 := hp60o 11 (by decide)
          have hF61 := Fr_tr (lo := 175) (hi := 177) hF hs59 (by omega)
          have hk62 : s59 (176) = σ (176) := (hs59 (176) (by omega)).trans hk0
          refine ra_load rfl rfl rfl rfl ?_
          refine ra_dup rfl rfl ?_
          refine ra_getI rfl lk_6_25 (Nat.zero_le _) sh_175 rfl ?_
          have hr63 : ra_in (ra_g s59 (175) 4) := (ra_in_g _ _ _)
          refine ra_iconst rfl ?_
          refine ra_iadd rfl ?_
          refine ra_putI rfl lk_6_25 (Nat.zero_le _) sh_175 rfl rfl ?_
          refine ra_newU (by first | omega | (unfold ra_in at *; omega)) (fun s64 hs64 hp65 hp65o => ?_)
          have hp65_1 := hp65o 1 (by decide)
          have hp65_2 := hp65o 2 (by decide)
          have hp65_3 := hp65o 3 (by decide)
          have hp65_5 := hp65o 5 (by decide)
          have hp65_6 := hp65o 6 (by decide)
          have hp65_7 := hp65o 7 (by decide)
          have hp65_8 := hp65o 8 (by decide)
          have hp65_9 := hp65o 9 (by decide)
          have hp65_10 := hp65o 10 (by decide)
          have hp65_11 := hp65o 11 (by decide)
          have hF66 := Fr_tr (lo := 175) (hi := 177) hF61 hs64 (by omega)
          have hk67 : s64 (176) = σ (176) := (hs64 (176) (by omega)).trans hk62
          refine ra_goto rfl rfl ?_
          exact ra_weak (by repeat' constructor) (ih s64 hF66 hk67 (by omega) (by omega) (by omega) hd (by rw [show (ra_g s64 175 4).toNat = (ra_g s 175 4).toNat + 1 by omega]; exact (tx_sp_s (by omega) (x4di_y (by omega))).symm.trans hw) (by rw [show (ra_g s64 175 4).toNat - tx_a B bn ps = ((ra_g s 175 4).toNat - tx_a B bn ps) + 1 by omega]; have q := x4tv_y (x := ra_g s 175 7) (by omega) hv; rw [show tx_a B bn ps + ((ra_g s 175 4).toNat - tx_a B bn ps) = (ra_g s 175 4).toNat by omega] at q; omega) (by omega) (by first | omega | (unfold ra_in at *; omega)))
theorem l4_111_144 {n : Nat} {f : Nat → Int32} {d : Nat}  {σ : ra_V} (hB : x4TB σ B bn) (hps : ra_g σ 175 4 = (ps : Nat)) (hpl : ps ≤ bn) : ∀ (s : ra_V) (hF : Fr (175) (177) σ s) (hk0 : s (176) = σ (176)) (he7 : ra_g s 175 1 = ra_g σ 175 1 ∧ ra_g s 175 2 = ra_g σ 175 2 ∧ ra_g s 175 3 = ra_g σ 175 3 ∧ ra_g s 175 8 = ra_g σ 175 8 ∧ ra_g s 175 9 = ra_g σ 175 9 ∧ ra_g s 175 10 = ra_g σ 175 10 ∧ ra_g s 175 11 = ra_g σ 175 11) (hs : ra_g s 175 6 = (tx_a B bn ps : Nat) ∧ ra_g s 175 5 = 1 ∧ tx_a B bn ps < bn) (hl : tx_le (B (tx_a B bn ps)) = true) (hw : ra_g s 175 4 = (tx_sp tx_le B bn (tx_a B bn ps) : Nat)), ra_P (g_Gs n f) g_sh 0 (d + 1) g_m_X6_next 144 [none, none] [] s (fun r9 s => rV r9 ∧ Fr (175) (177) σ s ∧ s (176) = σ (176) ∧ (ra_g s 175 1 = ra_g σ 175 1 ∧ ra_g s 175 2 = ra_g σ 175 2 ∧ ra_g s 175 3 = ra_g σ 175 3 ∧ ra_g s 175 8 = ra_g σ 175 8 ∧ ra_g s 175 9 = ra_g σ 175 9 ∧ ra_g s 175 10 = ra_g σ 175 10 ∧ ra_g s 175 11 = ra_g σ 175 11) ∧ x4NXC B bn s (tx_a B bn ps)) := by
    intro s hF hk0 he7 hs hl hw
    have hB0 := hB
    obtain ⟨b1, b2, b3, b4⟩ := hB0
    exact ra_return rfl rfl ⟨rfl, ⟨hF, hk0, by omega, x4nxc_w (by omega) (by omega) (by omega) (by omega) hl⟩⟩
theorem l4_111_106 {n : Nat} {f : Nat → Int32} {d : Nat}  {σ : ra_V} (hB : x4TB σ B bn) (hps : ra_g σ 175 4 = (ps : Nat)) (hpl : ps ≤ bn) : ∀ (nn : Nat) (s : ra_V) (hF : Fr (175) (177) σ s) (hk0 : s (176) = σ (176)) (he7 : ra_g s 175 1 = ra_g σ 175 1 ∧ ra_g s 175 2 = ra_g σ 175 2 ∧ ra_g s 175 3 = ra_g σ 175 3 ∧ ra_g s 175 8 = ra_g σ 175 8 ∧ ra_g s 175 9 = ra_g σ 175 9 ∧ ra_g s 175 10 = ra_g σ 175 10 ∧ ra_g s 175 11 = ra_g σ 175 11) (hq : 0 ≤ ra_g s 175 4 ∧ ra_g s 175 4 ≤ bn) (hs : ra_g s 175 6 = (tx_a B bn ps : Nat) ∧ ra_g s 175 5 = 1 ∧ tx_a B bn ps < bn) (hl : tx_le (B (tx_a B bn ps)) = true) (hw : tx_sp tx_le B bn (ra_g s 175 4).toNat = tx_sp tx_le B bn (tx_a B bn ps)) (hm : ((ra_g s 175 1 - ra_g s 175 4 : Int)).toNat < nn), ra_P (g_Gs n f) g_sh 0 (d + 1) g_m_X6_next 106 [some (.index (175)), none] [] s (fun r9 s => rV r9 ∧ Fr (175) (177) σ s ∧ s (176) = σ (176) ∧ (ra_g s 175 1 = ra_g σ 175 1 ∧ ra_g s 175 2 = ra_g σ 175 2 ∧ ra_g s 175 3 = ra_g σ 175 3 ∧ ra_g s 175 8 = ra_g σ 175 8 ∧ ra_g s 175 9 = ra_g σ 175 9 ∧ ra_g s 175 10 = ra_g σ 175 10 ∧ ra_g s 175 11 = ra_g σ 175 11) ∧ x4NXC B bn s (tx_a B bn ps)) := by
  intro nn
  induction nn with
  | zero => intro s hF hk0 he7 hq hs hl hw hm; exact absurd hm (Nat.not_lt_zero _)
  | succ nn ih =>
    intro s hF hk0 he7 hq hs hl hw hm
    have hB0 := hB
    obtain ⟨b1, b2, b3, b4⟩ := hB0
    refine ra_load rfl rfl rfl rfl ?_
    refine ra_getI rfl lk_6_25 (Nat.zero_le _) sh_175 rfl ?_
    have hr81 : ra_in (ra_g s (175) 4) := (ra_in_g _ _ _)
    refine ra_load rfl rfl rfl rfl ?_
    refine ra_getI rfl lk_6_22 (Nat.zero_le _) sh_175 rfl ?_
    have hr82 : ra_in (ra_g s (175) 1) := (ra_in_g _ _ _)
    refine ra_icge rfl rfl hr81 hr82 (fun h83 => ?_) (fun h83 => ?_)
    · exact ra_weak (by repeat' constructor) (l4_111_144 hB hps hpl s hF hk0 (by omega) (by omega) hl (by rw [← hw]; first | (rw [tx_sp_0 (by omega)]; omega) | (rw [tx_sp_e (x4le_n (by omega))]; omega)))
    · refine ra_load rfl rfl rfl rfl ?_
      refine ra_load rfl rfl rfl rfl ?_
      refine ra_getI rfl lk_6_25 (Nat.zero_le _) sh_175 rfl ?_
      have hr84 : ra_in (ra_g s (175) 4) := (ra_in_g _ _ _)
      refine ra_cTp (s4_108 hr84 (x4TB_k (by omega) hk0 hB) (by first | assumption | rfl | omega)) rfl (ct_108 rfl lk_6_140 (Or.inl rfl) sh_175 (Nat.le_of_ble_eq_true rfl)) ?_
      have hr86 : ra_in (B (ra_g s (175) 4).toNat) := (x4TB_in (x4TB_k (by omega) hk0 hB))
      refine ra_cTp (s4_109 hr86) rfl (ct_109 rfl lk_6_144 (Or.inl rfl) (Nat.le_of_ble_eq_true rfl)) ?_
      refine ra_ifeqB rfl rfl (fun h88 => ?_) (fun h88 => ?_)
      · exact ra_weak (by repeat' constructor) (l4_111_144 hB hps hpl s hF hk0 (by omega) (by omega) hl (by rw [← hw]; first | (rw [tx_sp_0 (by omega)]; omega) | (rw [tx_sp_e (x4le_n (by omega))]; omega)))
      · refine ra_load rfl rfl rfl rfl ?_
        refine ra_dup rfl rfl ?_
        refine ra_getI rfl lk_6_25 (Nat.zero_le _) sh_175 rfl ?_
        have hr89 : ra_in (ra_g s (175) 4) := (ra_in_g _ _ _)
        refine ra_iconst rfl ?_
        refine ra_iadd rfl ?_
        refine ra_putI rfl lk_6_25 (Nat.zero_le _) sh_175 rfl rfl ?_
        refine ra_newU (by first | omega | (unfold ra_in at *; omega)) (fun s90 hs90 hp91 hp91o => ?_)
        have hp91_1 := hp91o 1 (by decide)
        have hp91_2 := hp91o 2 (by decide)
        have hp91_3 := hp91o 3 (by decide)
        have hp91_5 := hp91o 5 (by decide)
        have hp91_6 := hp91o 6 (by decide)
        have hp91_7 := hp91o 7 (by decide)
        have hp91_8 := hp91o 8 (by decide)
        have hp91_9 := hp91o 9 (by decide)
        have hp91_10 := hp91o 10 (by decide)
        have hp91_11 := hp91o 11 (by decide)
        have hF92 := Fr_tr (lo := 175) (hi := 177) hF hs90 (by omega)
        have hk93 : s90 (176) = σ (176) := (hs90 (176) (by omega)).trans hk0
        refine ra_goto rfl rfl ?_
        exact ra_weak (by repeat' constructor) (ih s90 hF92 hk93 (by omega) (by omega) (by omega) hl (by rw [show (ra_g s90 175 4).toNat = (ra_g s 175 4).toNat + 1 by omega]; exact (tx_sp_s (by omega) (x4le_y (by omega))).symm.trans hw) (by first | omega | (unfold ra_in at *; omega)))
theorem l4_111_50 {n : Nat} {f : Nat → Int32} {d : Nat}  {σ : ra_V} (hB : x4TB σ B bn) (hps : ra_g σ 175 4 = (ps : Nat)) (hpl : ps ≤ bn) : ∀ (s : ra_V) (hF : Fr (175) (177) σ s) (hk0 : s (176) = σ (176)) (he7 : ra_g s 175 1 = ra_g σ 175 1 ∧ ra_g s 175 2 = ra_g σ 175 2 ∧ ra_g s 175 3 = ra_g σ 175 3 ∧ ra_g s 175 8 = ra_g σ 175 8 ∧ ra_g s 175 9 = ra_g σ 175 9 ∧ ra_g s 175 10 = ra_g σ 175 10 ∧ ra_g s 175 11 = ra_g σ 175 11) (hq : 0 ≤ ra_g s 175 4 ∧ ra_g s 175 4 ≤ bn) (hz : tx_a B bn ps = (ra_g s 175 4).toNat), ra_P (g_Gs n f) g_sh 0 (d + 1) g_m_X6_next 50 [some (.index (175)), none] [] s (fun r9 s => rV r9 ∧ Fr (175) (177) σ s ∧ s (176) = σ (176) ∧ (ra_g s 175 1 = ra_g σ 175 1 ∧ ra_g s 175 2 = ra_g σ 175 2 ∧ ra_g s 175 3 = ra_g σ 175 3 ∧ ra_g s 175 8 = ra_g σ 175 8 ∧ ra_g s 175 9 = ra_g σ 175 9 ∧ ra_g s 175 10 = ra_g σ 175 10 ∧ ra_g s 175 11 = ra_g σ 175 11) ∧ x4NXC B bn s (tx_a B bn ps)) := by
    intro s hF hk0 he7 hq hz
    have hB0 := hB
    obtain ⟨b1, b2, b3, b4⟩ := hB0
    refine ra_load rfl rfl rfl rfl ?_
    refine ra_load rfl rfl rfl rfl ?_
    refine ra_getI rfl lk_6_25 (Nat.zero_le _) sh_175 rfl ?_
    have hr4 : ra_in (ra_g s (175) 4) := (ra_in_g _ _ _)
    refine ra_putI rfl lk_6_137 (Nat.zero_le _) sh_175 rfl rfl ?_
    refine ra_newU hr4 (fun s5 hs5 hp6 hp6o => ?_)
    have hp6_1 := hp6o 1 (by decide)
    have hp6_2 := hp6o 2 (by decide)
    have hp6_3 := hp6o 3 (by decide)
    have hp6_4 := hp6o 4 (by decide)
    have hp6_5 := hp6o 5 (by decide)
    have hp6_7 := hp6o 7 (by decide)
    have hp6_8 := hp6o 8 (by decide)
    have hp6_9 := hp6o 9 (by decide)
    have hp6_10 := hp6o 10 (by decide)
    have hp6_11 := hp6o 11 (by decide)
    have hF7 := Fr_tr (lo := 175) (hi := 177) hF hs5 (by omega)
    have hk8 : s5 (176) = σ (176) := (hs5 (176) (by omega)).trans hk0
    refine ra_load rfl rfl rfl rfl ?_
    refine ra_getI rfl lk_6_25 (Nat.zero_le _) sh_175 rfl ?_
    have hr9 : ra_in (ra_g s5 (175) 4) := (ra_in_g _ _ _)
    refine ra_load rfl rfl rfl rfl ?_
    refine ra_getI rfl lk_6_22 (Nat.zero_le _) sh_175 rfl ?_
    have hr10 : ra_in (ra_g s5 (175) 1) := (ra_in_g _ _ _)
    refine ra_iclt rfl rfl hr9 hr10 (fun h11 => ?_) (fun h11 => ?_)
    · refine ra_load rfl rfl rfl rfl ?_
      refine ra_load rfl rfl rfl rfl ?_
      refine ra_getI rfl lk_6_25 (Nat.zero_le _) sh_175 rfl ?_
      have hr12 : ra_in (ra_g s5 (175) 4) := (ra_in_g _ _ _)
      refine ra_cTp (s4_108 hr12 (x4TB_k (by omega) hk8 hB) (by first | assumption | rfl | omega)) rfl (ct_108 rfl lk_6_140 (Or.inl rfl) sh_175 (Nat.le_of_ble_eq_true rfl)) ?_
      have hr14 : ra_in (B (ra_g s5 (175) 4).toNat) := (x4TB_in (x4TB_k (by omega) hk8 hB))
      refine ra_store (L' := [_, _]) rfl rfl rfl (Nat.le_of_ble_eq_true rfl) rfl ?_
      refine ra_load rfl rfl rfl rfl ?_
      refine ra_dup rfl rfl ?_
      refine ra_getI rfl lk_6_25 (Nat.zero_le _) sh_175 rfl ?_
      have hr15 : ra_in (ra_g s5 (175) 4) := (ra_in_g _ _ _)
      refine ra_iconst rfl ?_
      refine ra_iadd rfl ?_
      refine ra_putI rfl lk_6_25 (Nat.zero_le _) sh_175 rfl rfl ?_
      refine ra_newU (by first | omega | (unfold ra_in at *; omega)) (fun s16 hs16 hp17 hp17o => ?_)
      have hp17_1 := hp17o 1 (by decide)
      have hp17_2 := hp17o 2 (by decide)
      have hp17_3 := hp17o 3 (by decide)
      have hp17_5 := hp17o 5 (by decide)
      have hp17_6 := hp17o 6 (by decide)
      have hp17_7 := hp17o 7 (by decide)
      have hp17_8 := hp17o 8 (by decide)
      have hp17_9 := hp17o 9 (by decide)
      have hp17_10 := hp17o 10 (by decide)
      have hp17_11 := hp17o 11 (by decide)
      have hF18 := Fr_tr (lo := 175) (hi := 177) hF7 hs16 (by omega)
      have hk19 : s16 (176) = σ (176) := (hs16 (176) (by omega)).trans hk8
      refine ra_load rfl rfl rfl rfl ?_
      refine ra_cTp (s4_109 hr14) rfl (ct_109 rfl lk_6_144 (Or.inl rfl) (Nat.le_of_ble_eq_true rfl)) ?_
      refine ra_ifeqB rfl rfl (fun h21 => ?_) (fun h21 => ?_)
      · refine ra_load rfl rfl rfl rfl ?_
        refine ra_cTp (s4_110 hr14) rfl (ct_110 rfl lk_6_147 (Or.inl rfl) (Nat.le_of_ble_eq_true rfl)) ?_
        refine ra_ifneB rfl rfl (fun h23 => ?_) (fun h23 => ?_)
        · have hd : tx_le (B (tx_a B bn ps)) = false ∧ tx_di (B (tx_a B bn ps)) = true := by rw [show tx_a B bn ps = (ra_g s5 (175) 4).toNat by omega]; exact ⟨x4le_n (by omega), x4di_y (by omega)⟩
          refine ra_load rfl rfl rfl rfl ?_
          refine ra_load rfl rfl rfl rfl ?_
          refine ra_bipush rfl (by decide) ?_
          refine ra_isub rfl ?_
          refine ra_putI rfl lk_6_58 (Nat.zero_le _) sh_175 rfl rfl ?_
          refine ra_newU (by first | omega | (unfold ra_in at *; omega)) (fun s24 hs24 hp25 hp25o => ?_)
          have hp25_1 := hp25o 1 (by decide)
          have hp25_2 := hp25o 2 (by decide)
          have hp25_3 := hp25o 3 (by decide)
          have hp25_4 := hp25o 4 (by decide)
          have hp25_5 := hp25o 5 (by decide)
          have hp25_6 := hp25o 6 (by decide)
          have hp25_8 := hp25o 8 (by decide)
          have hp25_9 := hp25o 9 (by decide)
          have hp25_10 := hp25o 10 (by decide)
          have hp25_11 := hp25o 11 (by decide)
          have hF26 := Fr_tr (lo := 175) (hi := 177) hF18 hs24 (by omega)
          have hk27 : s24 (176) = σ (176) := (hs24 (176) (by omega)).trans hk19
          exact ra_weak (by repeat' constructor) (l4_111_176 hB hps hpl _ s24 hF26 hk27 (by omega) (by omega) (by omega) hd (by rw [show (ra_g s24 175 4).toNat = tx_a B bn ps + 1 by omega]; exact (tx_sp_s (by omega) hd.2).symm) (by rw [show (ra_g s24 175 4).toNat - tx_a B bn ps = 1 by omega]; show _ = 10 * 0 + (B (tx_a B bn ps + 0) - 48); rw [Nat.add_zero, show tx_a B bn ps = (ra_g s5 (175) 4).toNat by omega]; omega) (by omega) (Nat.lt_succ_self _))
        · refine ra_load rfl rfl rfl rfl ?_
          refine ra_load rfl rfl rfl rfl ?_
          refine ra_bipush rfl (by decide) ?_
          refine ra_icne rfl rfl hr14 (by first | omega | (unfold ra_in at *; omega)) (fun h68 => ?_) (fun h68 => ?_)
          · refine ra_iconst rfl ?_
            refine ra_putI rfl lk_6_71 (Nat.zero_le _) sh_175 rfl rfl ?_
            refine ra_newU (by first | omega | (unfold ra_in at *; omega)) (fun s69 hs69 hp70 hp70o => ?_)
            have hp70_1 := hp70o 1 (by decide)
            have hp70_2 := hp70o 2 (by decide)
            have hp70_3 := hp70o 3 (by decide)
            have hp70_4 := hp70o 4 (by decide)
            have hp70_6 := hp70o 6 (by decide)
            have hp70_7 := hp70o 7 (by decide)
            have hp70_8 := hp70o 8 (by decide)
            have hp70_9 := hp70o 9 (by decide)
            have hp70_10 := hp70o 10 (by decide)
            have hp70_11 := hp70o 11 (by decide)
            have hF71 := Fr_tr (lo := 175) (hi := 177) hF18 hs69 (by omega)
            have hk72 : s69 (176) = σ (176) := (hs69 (176) (by omega)).trans hk19
            exact ra_return rfl rfl ⟨rfl, ⟨hF71, hk72, by omega, x4nxc_1 (by omega) (by omega) (by omega) (by rw [show tx_a B bn ps = (ra_g s5 (175) 4).toNat by omega]; exact x4le_n (by omega)) (by rw [show tx_a B bn ps = (ra_g s5 (175) 4).toNat by omega]; exact x4di_n (by omega)) (by rw [show tx_a B bn ps = (ra_g s5 (175) 4).toNat by omega]; constructor <;> intro q <;> omega)⟩⟩
          · refine ra_iconst rfl ?_
            refine ra_goto rfl rfl ?_
            refine ra_putI rfl lk_6_71 (Nat.zero_le _) sh_175 rfl rfl ?_
            refine ra_newU (by first | omega | (unfold ra_in at *; omega)) (fun s73 hs73 hp74 hp74o => ?_)
            have hp74_1 := hp74o 1 (by decide)
            have hp74_2 := hp74o 2 (by decide)
            have hp74_3 := hp74o 3 (by decide)
            have hp74_4 := hp74o 4 (by decide)
            have hp74_6 := hp74o 6 (by decide)
            have hp74_7 := hp74o 7 (by decide)
            have hp74_8 := hp74o 8 (by decide)
            have hp74_9 := hp74o 9 (by decide)
            have hp74_10 := hp74o 10 (by decide)
            have hp74_11 := hp74o 11 (by decide)
            have hF75 := Fr_tr (lo := 175) (hi := 177) hF18 hs73 (by omega)
            have hk76 : s73 (176) = σ (176) := (hs73 (176) (by omega)).trans hk19
            exact ra_return rfl rfl ⟨rfl, ⟨hF75, hk76, by omega, x4nxc_1 (by omega) (by omega) (by omega) (by rw [show tx_a B bn ps = (ra_g s5 (175) 4).toNat by omega]; exact x4le_n (by omega)) (by rw [show tx_a B bn ps = (ra_g s5 (175) 4).toNat by omega]; exact x4di_n (by omega)) (by rw [show tx_a B bn ps = (ra_g s5 (175) 4).toNat by omega]; constructor <;> intro q <;> omega)⟩⟩
      · have hl : tx_le (B (tx_a B bn ps)) = true := by rw [show tx_a B bn ps = (ra_g s5 (175) 4).toNat by omega]; exact x4le_y (by omega)
        refine ra_load rfl rfl rfl rfl ?_
        refine ra_iconst rfl ?_
        refine ra_putI rfl lk_6_71 (Nat.zero_le _) sh_175 rfl rfl ?_
        refine ra_newU (by first | omega | (unfold ra_in at *; omega)) (fun s77 hs77 hp78 hp78o => ?_)
        have hp78_1 := hp78o 1 (by decide)
        have hp78_2 := hp78o 2 (by decide)
        have hp78_3 := hp78o 3 (by decide)
        have hp78_4 := hp78o 4 (by decide)
        have hp78_6 := hp78o 6 (by decide)
        have hp78_7 := hp78o 7 (by decide)
        have hp78_8 := hp78o 8 (by decide)
        have hp78_9 := hp78o 9 (by decide)
        have hp78_10 := hp78o 10 (by decide)
        have hp78_11 := hp78o 11 (by decide)
        have hF79 := Fr_tr (lo := 175) (hi := 177) hF18 hs77 (by omega)
        have hk80 : s77 (176) = σ (176) := (hs77 (176) (by omega)).trans hk19
        exact ra_weak (by repeat' constructor) (l4_111_106 hB hps hpl _ s77 hF79 hk80 (by omega) (by omega) (by omega) hl (by rw [show (ra_g s77 175 4).toNat = tx_a B bn ps + 1 by omega]; exact (tx_sp_s (by omega) hl).symm) (Nat.lt_succ_self _))
    · refine ra_load rfl rfl rfl rfl ?_
      refine ra_iconst rfl ?_
      refine ra_putI rfl lk_6_71 (Nat.zero_le _) sh_175 rfl rfl ?_
      refine ra_newU (by first | omega | (unfold ra_in at *; omega)) (fun s94 hs94 hp95 hp95o => ?_)
      have hp95_1 := hp95o 1 (by decide)
      have hp95_2 := hp95o 2 (by decide)
      have hp95_3 := hp95o 3 (by decide)
      have hp95_4 := hp95o 4 (by decide)
      have hp95_6 := hp95o 6 (by decide)
      have hp95_7 := hp95o 7 (by decide)
      have hp95_8 := hp95o 8 (by decide)
      have hp95_9 := hp95o 9 (by decide)
      have hp95_10 := hp95o 10 (by decide)
      have hp95_11 := hp95o 11 (by decide)
      have hF96 := Fr_tr (lo := 175) (hi := 177) hF7 hs94 (by omega)
      have hk97 : s94 (176) = σ (176) := (hs94 (176) (by omega)).trans hk8
      exact ra_return rfl rfl ⟨rfl, ⟨hF96, hk97, by omega, x4nxc_0 (by omega) (by omega) (by omega) (by omega) (by omega)⟩⟩
theorem l4_111_0 {n : Nat} {f : Nat → Int32} {d : Nat}  {σ : ra_V} (hB : x4TB σ B bn) (hps : ra_g σ 175 4 = (ps : Nat)) (hpl : ps ≤ bn) : ∀ (nn : Nat) (s : ra_V) (hF : Fr (175) (177) σ s) (hk0 : s (176) = σ (176)) (he7 : ra_g s 175 1 = ra_g σ 175 1 ∧ ra_g s 175 2 = ra_g σ 175 2 ∧ ra_g s 175 3 = ra_g σ 175 3 ∧ ra_g s 175 8 = ra_g σ 175 8 ∧ ra_g s 175 9 = ra_g σ 175 9 ∧ ra_g s 175 10 = ra_g σ 175 10 ∧ ra_g s 175 11 = ra_g σ 175 11) (hq : 0 ≤ ra_g s 175 4 ∧ ra_g s 175 4 ≤ bn) (ha : tx_a B bn (ra_g s 175 4).toNat = tx_a B bn ps) (hm : ((ra_g s 175 1 - ra_g s 175 4 : Int)).toNat < nn), ra_P (g_Gs n f) g_sh 0 (d + 1) g_m_X6_next 0 [some (.index (175)), none] [] s (fun r9 s => rV r9 ∧ Fr (175) (177) σ s ∧ s (176) = σ (176) ∧ (ra_g s 175 1 = ra_g σ 175 1 ∧ ra_g s 175 2 = ra_g σ 175 2 ∧ ra_g s 175 3 = ra_g σ 175 3 ∧ ra_g s 175 8 = ra_g σ 175 8 ∧ ra_g s 175 9 = ra_g σ 175 9 ∧ ra_g s 175 10 = ra_g σ 175 10 ∧ ra_g s 175 11 = ra_g σ 175 11) ∧ x4NXC B bn s (tx_a B bn ps)) := by
  intro nn
  induction nn with
  | zero => intro s hF hk0 he7 hq ha hm; exact absurd hm (Nat.not_lt_zero _)
  | succ nn ih =>
    intro s hF hk0 he7 hq ha hm
    have hB0 := hB
    obtain ⟨b1, b2, b3, b4⟩ := hB0
    refine ra_load rfl rfl rfl rfl ?_
    refine ra_getI rfl lk_6_25 (Nat.zero_le _) sh_175 rfl ?_
    have hr1 : ra_in (ra_g s (175) 4) := (ra_in_g _ _ _)
    refine ra_load rfl rfl rfl rfl ?_
    refine ra_getI rfl lk_6_22 (Nat.zero_le _) sh_175 rfl ?_
    have hr2 : ra_in (ra_g s (175) 1) := (ra_in_g _ _ _)
    refine ra_icge rfl rfl hr1 hr2 (fun h3 => ?_) (fun h3 => ?_)
    · exact ra_weak (by repeat' constructor) (l4_111_50 hB hps hpl s hF hk0 (by omega) (by omega) (ha.symm.trans (by first | exact tx_sp_0 (by omega) | exact tx_sp_e (x4bl_n (by omega) (by omega)))))
    · refine ra_load rfl rfl rfl rfl ?_
      refine ra_load rfl rfl rfl rfl ?_
      refine ra_getI rfl lk_6_25 (Nat.zero_le _) sh_175 rfl ?_
      have hr98 : ra_in (ra_g s (175) 4) := (ra_in_g _ _ _)
      refine ra_cTp (s4_108 hr98 (x4TB_k (by omega) hk0 hB) (by first | assumption | rfl | omega)) rfl (ct_108 rfl lk_6_140 (Or.inl rfl) sh_175 (Nat.le_of_ble_eq_true rfl)) ?_
      have hr100 : ra_in (B (ra_g s (175) 4).toNat) := (x4TB_in (x4TB_k (by omega) hk0 hB))
      refine ra_bipush rfl (by decide) ?_
      refine ra_iceq rfl rfl hr100 (by first | omega | (unfold ra_in at *; omega)) (fun h101 => ?_) (fun h101 => ?_)
      · refine ra_load rfl rfl rfl rfl ?_
        refine ra_dup rfl rfl ?_
        refine ra_getI rfl lk_6_25 (Nat.zero_le _) sh_175 rfl ?_
        have hr102 : ra_in (ra_g s (175) 4) := (ra_in_g _ _ _)
        refine ra_iconst rfl ?_
        refine ra_iadd rfl ?_
        refine ra_putI rfl lk_6_25 (Nat.zero_le _) sh_175 rfl rfl ?_
        refine ra_newU (by first | omega | (unfold ra_in at *; omega)) (fun s103 hs103 hp104 hp104o => ?_)
        have hp104_1 := hp104o 1 (by decide)
        have hp104_2 := hp104o 2 (by decide)
        have hp104_3 := hp104o 3 (by decide)
        have hp104_5 := hp104o 5 (by decide)
        have hp104_6 := hp104o 6 (by decide)
        have hp104_7 := hp104o 7 (by decide)
        have hp104_8 := hp104o 8 (by decide)
        have hp104_9 := hp104o 9 (by decide)
        have hp104_10 := hp104o 10 (by decide)
        have hp104_11 := hp104o 11 (by decide)
        have hF105 := Fr_tr (lo := 175) (hi := 177) hF hs103 (by omega)
        have hk106 : s103 (176) = σ (176) := (hs103 (176) (by omega)).trans hk0
        refine ra_goto rfl rfl ?_
        exact ra_weak (by repeat' constructor) (ih s103 hF105 hk106 (by omega) (by omega) (by rw [show (ra_g s103 175 4).toNat = (ra_g s 175 4).toNat + 1 by omega]; exact (tx_sp_s (by omega) (x4bl_y (by omega))).symm.trans ha) (by first | omega | (unfold ra_in at *; omega)))
      · refine ra_load rfl rfl rfl rfl ?_
        refine ra_load rfl rfl rfl rfl ?_
        refine ra_getI rfl lk_6_25 (Nat.zero_le _) sh_175 rfl ?_
        have hr107 : ra_in (ra_g s (175) 4) := (ra_in_g _ _ _)
        refine ra_cTp (s4_108 hr107 (x4TB_k (by omega) hk0 hB) (by first | assumption | rfl | omega)) rfl (ct_108 rfl lk_6_140 (Or.inl rfl) sh_175 (Nat.le_of_ble_eq_true rfl)) ?_
        have hr109 : ra_in (B (ra_g s (175) 4).toNat) := (x4TB_in (x4TB_k (by omega) hk0 hB))
        refine ra_bipush rfl (by decide) ?_
        refine ra_icne rfl rfl hr109 (by first | omega | (unfold ra_in at *; omega)) (fun h110 => ?_) (fun h110 => ?_)
        · exact ra_weak (by repeat' constructor) (l4_111_50 hB hps hpl s hF hk0 (by omega) (by omega) (ha.symm.trans (by first | exact tx_sp_0 (by omega) | exact tx_sp_e (x4bl_n (by omega) (by omega)))))
        · refine ra_load rfl rfl rfl rfl ?_
          refine ra_dup rfl rfl ?_
          refine ra_getI rfl lk_6_25 (Nat.zero_le _) sh_175 rfl ?_
          have hr111 : ra_in (ra_g s (175) 4) := (ra_in_g _ _ _)
          refine ra_iconst rfl ?_
          refine ra_iadd rfl ?_
          refine ra_putI rfl lk_6_25 (Nat.zero_le _) sh_175 rfl rfl ?_
          refine ra_newU (by first | omega | (unfold ra_in at *; omega)) (fun s112 hs112 hp113 hp113o => ?_)
          have hp113_1 := hp113o 1 (by decide)
          have hp113_2 := hp113o 2 (by decide)
          have hp113_3 := hp113o 3 (by decide)
          have hp113_5 := hp113o 5 (by decide)
          have hp113_6 := hp113o 6 (by decide)
          have hp113_7 := hp113o 7 (by decide)
          have hp113_8 := hp113o 8 (by decide)
          have hp113_9 := hp113o 9 (by decide)
          have hp113_10 := hp113o 10 (by decide)
          have hp113_11 := hp113o 11 (by decide)
          have hF114 := Fr_tr (lo := 175) (hi := 177) hF hs112 (by omega)
          have hk115 : s112 (176) = σ (176) := (hs112 (176) (by omega)).trans hk0
          refine ra_goto rfl rfl ?_
          exact ra_weak (by repeat' constructor) (ih s112 hF114 hk115 (by omega) (by omega) (by rw [show (ra_g s112 175 4).toNat = (ra_g s 175 4).toNat + 1 by omega]; exact (tx_sp_s (by omega) (x4bl_y (by omega))).symm.trans ha) (by first | omega | (unfold ra_in at *; omega)))
theorem s4_111 {n : Nat} {f : Nat → Int32} {d : Nat}  {σ : ra_V} (hB : x4TB σ B bn) (hps : ra_g σ 175 4 = (ps : Nat)) (hpl : ps ≤ bn) : ra_C (g_Gs n f) g_sh 0 (d + 2) 111 [.index (175)] σ (fun r9 s => rV r9 ∧ Fr (175) (177) σ s ∧ s (176) = σ (176) ∧ (ra_g s 175 1 = ra_g σ 175 1 ∧ ra_g s 175 2 = ra_g σ 175 2 ∧ ra_g s 175 3 = ra_g σ 175 3 ∧ ra_g s 175 8 = ra_g σ 175 8 ∧ ra_g s 175 9 = ra_g σ 175 9 ∧ ra_g s 175 10 = ra_g σ 175 10 ∧ ra_g s 175 11 = ra_g σ 175 11) ∧ x4NXC B bn s (tx_a B bn ps)) := by
  refine ra_enter (nn := 1) mt_111 rfl (Nat.le_of_ble_eq_true rfl) rfl (fun h => absurd h (by decide +kernel)) ?_
  have hB0 := hB
  obtain ⟨b1, b2, b3, b4⟩ := hB0
  exact ra_weak (by repeat' constructor) (l4_111_0 hB hps hpl _ σ Fr_rf rfl (by omega) (by omega) (by rw [show (ra_g σ 175 4).toNat = ps by omega]) (Nat.lt_succ_self _))
end
