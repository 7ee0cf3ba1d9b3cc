/-! the reference: what its methods do (printed by wip/gen/ref.py) -/
section RB
theorem lq_209_3 {n : Nat} {f : Nat → Int32} {d : Nat} {x0 : Int} {x1 : Int} {x2 : Int} {x3 : Int} {σ : ra_V} (hx0 : ra_in x0) (hx1 : ra_in x1) (hx2 : ra_in x2) (hx3 : ra_in x3) (hx : ∃ q, 0 ≤ q ∧ q < 8 ∧ wq σ q 0 ≠ 1) (hn : 0 ≤ x0 ∧ 1 ≤ x1 ∧ x0 + x1 ≤ 600) (h5 : 0 ≤ ra_g σ 180 5 ∧ ra_g σ 180 5 ≤ 8) : ∀ (nn : Nat) (v5 : Int) (hv5_0 : 0 ≤ v5) (hv5_1 : ∀ r, 0 ≤ r → r < v5 → wq σ r 0 = 1) (hm : ((8 - v5 : Int)).toNat < nn), ra_P (g_Gs n f) g_sh 0 (d + 3) g_m_X8_makes 3 [some (.index (179)), some (ra_I x0), some (ra_I x1), some (ra_I x2), some (ra_I x3), some (ra_I v5)] [] σ (fun r s => (∃ z, ra_in z ∧ (MK2 σ s z x0 x1 x3) ∧ r = .inl (some (ra_I z))) ∧ Fr (180) (181) σ s) := by
  intro nn
  induction nn with
  | zero => intro v5 hv5_0 hv5_1 hm; exact absurd hm (Nat.not_lt_zero _)
  | succ nn ih =>
    intro v5 hv5_0 hv5_1 hm
    have hv8 : v5 < 8 := free_lt hx hv5_1
    refine ra_load rfl rfl rfl rfl ?_
    refine ra_load rfl rfl rfl rfl ?_
    refine ra_iconst rfl ?_
    refine ra_cTp (sp_199 (by first | omega | (unfold ra_in at *; omega)) (by first | omega | (unfold ra_in at *; omega)) (by first | assumption | rfl | omega)) rfl (ct_199 rfl lk_8_67 (Or.inl rfl) sh_179 (Nat.le_of_ble_eq_true rfl)) ?_
    have hr2 : ra_in (wq σ v5 (0)) := (ra_in_wq _ _ _)
    refine ra_iconst rfl ?_
    refine ra_icne rfl rfl hr2 (by first | omega | (unfold ra_in at *; omega)) (fun h3 => ?_) (fun h3 => ?_)
    · refine ra_load rfl rfl rfl rfl ?_
      refine ra_load rfl rfl rfl rfl ?_
      refine ra_iconst rfl ?_
      refine ra_iconst rfl ?_
      refine ra_cV (sp_200 (by first | omega | (unfold ra_in at *; omega)) (by first | omega | (unfold ra_in at *; omega)) (by first | omega | (unfold ra_in at *; omega)) (by first | assumption | rfl | omega)) rfl (ct_200 rfl lk_8_78 (Or.inl rfl) sh_179 (Nat.le_of_ble_eq_true rfl)) (fun s4 hs4 => ?_)
      obtain ⟨hf5, he6, he7⟩ := hs4
      have hF8 := Fr_tr (lo := 180) (hi := 181) Fr_rf hf5 (by omega)
      refine ra_load rfl rfl rfl rfl ?_
      refine ra_load rfl rfl rfl rfl ?_
      refine ra_iconst rfl ?_
      refine ra_load rfl rfl rfl rfl ?_
      refine ra_cV (sp_200 (by first | omega | (unfold ra_in at *; omega)) (by first | omega | (unfold ra_in at *; omega)) hx0 (by first | assumption | rfl | omega)) rfl (ct_200 rfl lk_8_78 (Or.inl rfl) sh_179 (Nat.le_of_ble_eq_true rfl)) (fun s9 hs9 => ?_)
      obtain ⟨hf10, he11, he12⟩ := hs9
      have hF13 := Fr_tr (lo := 180) (hi := 181) hF8 hf10 (by omega)
      refine ra_load rfl rfl rfl rfl ?_
      refine ra_load rfl rfl rfl rfl ?_
      refine ra_iconst rfl ?_
      refine ra_load rfl rfl rfl rfl ?_
      refine ra_cV (sp_200 (by first | omega | (unfold ra_in at *; omega)) (by first | omega | (unfold ra_in at *; omega)) hx1 (by first | assumption | rfl | omega)) rfl (ct_200 rfl lk_8_78 (Or.inl rfl) sh_179 (Nat.le_of_ble_eq_true rfl)) (fun s14 hs14 => ?_)
      obtain ⟨hf15, he16, he17⟩ := hs14
      have hF18 := Fr_tr (lo := 180) (hi := 181) hF13 hf15 (by omega)
      refine ra_load rfl rfl rfl rfl ?_
      refine ra_load rfl rfl rfl rfl ?_
      refine ra_iconst rfl ?_
      refine ra_load rfl rfl rfl rfl ?_
      refine ra_cV (sp_200 (by first | omega | (unfold ra_in at *; omega)) (by first | omega | (unfold ra_in at *; omega)) hx3 (by first | assumption | rfl | omega)) rfl (ct_200 rfl lk_8_78 (Or.inl rfl) sh_179 (Nat.le_of_ble_eq_true rfl)) (fun s19 hs19 => ?_)
      obtain ⟨hf20, he21, he22⟩ := hs19
      have hF23 := Fr_tr (lo := 180) (hi := 181) hF18 hf20 (by omega)
      refine ra_load rfl rfl rfl rfl ?_
      refine ra_load rfl rfl rfl rfl ?_
      refine ra_iconst rfl ?_
      refine ra_load rfl rfl rfl rfl ?_
      refine ra_cV (sp_200 (by first | omega | (unfold ra_in at *; omega)) (by first | omega | (unfold ra_in at *; omega)) hx2 (by first | assumption | rfl | omega)) rfl (ct_200 rfl lk_8_78 (Or.inl rfl) sh_179 (Nat.le_of_ble_eq_true rfl)) (fun s24 hs24 => ?_)
      obtain ⟨hf25, he26, he27⟩ := hs24
      have hF28 := Fr_tr (lo := 180) (hi := 181) hF23 hf25 (by omega)
      refine ra_load rfl rfl rfl rfl ?_
      refine ra_load rfl rfl rfl rfl ?_
      refine ra_iconst rfl ?_
      refine ra_iconst rfl ?_
      refine ra_cV (sp_200 (by first | omega | (unfold ra_in at *; omega)) (by first | omega | (unfold ra_in at *; omega)) (by first | omega | (unfold ra_in at *; omega)) (by first | assumption | rfl | omega)) rfl (ct_200 rfl lk_8_78 (Or.inl rfl) sh_179 (Nat.le_of_ble_eq_true rfl)) (fun s29 hs29 => ?_)
      obtain ⟨hf30, he31, he32⟩ := hs29
      have hF33 := Fr_tr (lo := 180) (hi := 181) hF28 hf30 (by omega)
      refine ra_load rfl rfl rfl rfl ?_
      refine ra_load rfl rfl rfl rfl ?_
      refine ra_bipush rfl (by decide) ?_
      refine ra_load rfl rfl rfl rfl ?_
      refine ra_getR rfl lk_8_7 (Nat.zero_le _) sh_179 rfl ?_
      refine ra_iconst rfl ?_
      refine ra_ialoadJ (j := 5) rfl sh_180 rfl (by decide) rfl (by decide) ?_
      have hr34 : ra_in (ra_g s29 (180) 5) := (ra_in_g _ _ _)
      refine ra_cV (sp_200 (by first | omega | (unfold ra_in at *; omega)) (by first | omega | (unfold ra_in at *; omega)) hr34 (by first | assumption | rfl | omega)) rfl (ct_200 rfl lk_8_78 (Or.inl rfl) sh_179 (Nat.le_of_ble_eq_true rfl)) (fun s35 hs35 => ?_)
      obtain ⟨hf36, he37, he38⟩ := hs35
      have hF39 := Fr_tr (lo := 180) (hi := 181) hF33 hf36 (by omega)
      refine ra_load rfl rfl rfl rfl ?_
      refine ra_load rfl rfl rfl rfl ?_
      refine ra_bipush rfl (by decide) ?_
      refine ra_iconst rfl ?_
      refine ra_cV (sp_200 (by first | omega | (unfold ra_in at *; omega)) (by first | omega | (unfold ra_in at *; omega)) (by first | omega | (unfold ra_in at *; omega)) (by first | assumption | rfl | omega)) rfl (ct_200 rfl lk_8_78 (Or.inl rfl) sh_179 (Nat.le_of_ble_eq_true rfl)) (fun s40 hs40 => ?_)
      obtain ⟨hf41, he42, he43⟩ := hs40
      have hF44 := Fr_tr (lo := 180) (hi := 181) hF39 hf41 (by omega)
      refine ra_load rfl rfl rfl rfl ?_
      have e5 : ra_g s40 180 5 = ra_g σ 180 5 := ((he43 5 (by omega)).trans ((he38 5 (by omega)).trans ((he32 5 (by omega)).trans ((he27 5 (by omega)).trans ((he22 5 (by omega)).trans ((he17 5 (by omega)).trans ((he12 5 (by omega)).trans (he7 5 (by omega)))))))))
      refine ra_getR rfl lk_8_7 (Nat.zero_le _) sh_179 rfl ?_
      refine ra_iconst rfl ?_
      refine ra_dup2 rfl rfl rfl ?_
      refine ra_ialoadJ (j := 5) rfl sh_180 rfl (by decide) rfl (by decide) ?_
      have hr45 : ra_in (ra_g s40 (180) 5) := (ra_in_g _ _ _)
      refine ra_iconst rfl ?_
      refine ra_iadd rfl ?_
      refine ra_iastoreJ (j := 5) rfl sh_180 rfl (by decide) rfl (by decide) ?_
      refine ra_newR (by first | omega | (unfold ra_in at *; omega)) (fun s46 hs46 hs46v hs46o => ?_)
      have hF47 := Fr_tr (lo := 180) (hi := 181) hF44 hs46 (by omega)
      refine ra_load rfl rfl rfl rfl ?_
      refine ra_load rfl rfl rfl rfl ?_
      refine ra_iconst rfl ?_
      refine ra_cV (sp_208 (by first | omega | (unfold ra_in at *; omega)) (by first | omega | (unfold ra_in at *; omega)) (by first | assumption | rfl | omega) (by have := mk_chain (a := x0) (m := x1) (mn := x3) ⟨by omega, by omega, by omega⟩ he6 he7 he11 he12 he16 he17 he21 he22 he27 he32 he38 he43 hs46o SC_rf; obtain ⟨-, -, t1, t2, -⟩ := this; omega) (by first | assumption | rfl | omega)) rfl (ct_208 rfl lk_8_82 (Or.inl rfl) sh_179 (Nat.le_of_ble_eq_true rfl)) (fun s48 hs48 => ?_)
      obtain ⟨hf49, he50⟩ := hs48
      have hF51 := Fr_tr (lo := 180) (hi := 181) hF47 hf49 (by omega)
      refine ra_load rfl rfl rfl rfl ?_
      exact ra_ireturn rfl rfl ⟨⟨_, (by first | omega | (unfold ra_in at *; omega)), ⟨(mk_chain ⟨by omega, by omega, by omega⟩ he6 he7 he11 he12 he16 he17 he21 he22 he27 he32 he38 he43 hs46o he50), ((he50 5 (by decide)).trans (by have t := hs46v; omega)), hv5_1⟩, rfl⟩, hF51⟩
    · refine ra_iinc (L' := [_, _, _, _, _, _]) rfl rfl (Nat.le_of_ble_eq_true rfl) rfl ?_
      refine ra_goto rfl rfl ?_
      exact ra_weak (by repeat' constructor) (ih (v5 + 1) (by first | omega | (unfold ra_in at *; omega)) (fun r a b => if e : r = v5 then (by rw [e]; omega) else hv5_1 r a (by omega)) (by first | omega | (unfold ra_in at *; omega)))
theorem sq_209 {n : Nat} {f : Nat → Int32} {d : Nat} {x0 : Int} {x1 : Int} {x2 : Int} {x3 : Int} {σ : ra_V} (hx0 : ra_in x0) (hx1 : ra_in x1) (hx2 : ra_in x2) (hx3 : ra_in x3) (hx : ∃ q, 0 ≤ q ∧ q < 8 ∧ wq σ q 0 ≠ 1) (hn : 0 ≤ x0 ∧ 1 ≤ x1 ∧ x0 + x1 ≤ 600) (h5 : 0 ≤ ra_g σ 180 5 ∧ ra_g σ 180 5 ≤ 8) : ra_C (g_Gs n f) g_sh 0 (d + 4) 209 [.index (179), ra_I x0, ra_I x1, ra_I x2, ra_I x3] σ (fun r s => (∃ z, ra_in z ∧ (MK2 σ s z x0 x1 x3) ∧ r = .inl (some (ra_I z))) ∧ Fr (180) (181) σ s) := by
  refine ra_enter (nn := 1) mt_209 rfl (Nat.le_of_ble_eq_true rfl) rfl (fun h => absurd h (by decide +kernel)) ?_
  refine ra_iconst rfl ?_
  refine ra_store (L' := [_, _, _, _, _, _]) rfl rfl rfl (Nat.le_of_ble_eq_true rfl) rfl ?_
  exact ra_weak (by repeat' constructor) (lq_209_3 hx0 hx1 hx2 hx3 hx hn h5 _ (0) (by first | omega | (unfold ra_in at *; omega)) (fun r a b => by omega) (Nat.lt_succ_self _))
theorem lp_256_183 {n : Nat} {f : Nat → Int32} {d : Nat}  {σ : ra_V} (hpt : 0 ≤ ra_g σ 179 18 ∧ ra_g σ 179 18 ≤ ra_g σ 179 17 ∧ ra_g σ 179 17 ≤ ra_g σ 179 12 ∧ ra_g σ 179 12 ≤ 500 ∧ 0 ≤ ra_g σ 179 19 ∧ ra_g σ 179 19 ≤ 999) (hld : LD σ) : ∀ (s : ra_V) (hF : Fr (179) (189) σ s) (hk0 : s (180) = σ (180)) (hk1 : s (181) = σ (181)) (hk2 : s (182) = σ (182)) (hk3 : s (183) = σ (183)) (hk4 : s (184) = σ (184)) (hov : ∀ a, a ≠ 15 → a ≠ 16 → a ≠ 17 → a ≠ 18 → a ≠ 19 → a ≠ 20 → a ≠ 21 → ra_g s 179 a = ra_g σ 179 a) (hps : 0 ≤ ra_g s 179 18 ∧ ra_g s 179 18 ≤ ra_g s 179 17 ∧ ra_g s 179 17 ≤ ra_g s 179 12 ∧ ra_g s 179 12 ≤ 500 ∧ 0 ≤ ra_g s 179 19 ∧ ra_g s 179 19 ≤ 999) (hmo : ra_g σ 179 17 ≤ ra_g s 179 17) (h8 : ra_g σ 180 5 ≠ 8) (hua : US σ (ra_g s 188 0) (ra_g s 188 1)) (hta : ¬ TK σ (ra_g s 188 0) (ra_g s 188 1) (-1)) (h3 : 1 ≤ ra_g s 188 3 ∧ ra_g s 188 3 ≤ ra_g s 188 1) (hadv : ra_g s 179 20 = 3 → ra_g σ 179 17 < ra_g s 179 17), ra_P (g_Gs n f) g_sh 0 (d + 4) g_m_X8_readPart 183 [some (.index (179)), none] [] s (fun r s => (∃ z : Int, (z = 0 ∨ z = 1) ∧ (z = 1 → ra_g s 179 20 = 3 → ra_g σ 179 17 < ra_g s 179 17) ∧ r = .inl (some (ra_I z))) ∧ Fr (179) (189) σ s ∧ s (181) = σ (181) ∧ s (182) = σ (182) ∧ s (183) = σ (183) ∧ s (184) = σ (184) ∧ (∀ a, a ≠ 15 → a ≠ 16 → a ≠ 17 → a ≠ 18 → a ≠ 19 → a ≠ 20 → a ≠ 21 → ra_g s 179 a = ra_g σ 179 a) ∧ LD s ∧ (0 ≤ ra_g s 179 18 ∧ ra_g s 179 18 ≤ ra_g s 179 17 ∧ ra_g s 179 17 ≤ ra_g s 179 12 ∧ ra_g s 179 12 ≤ 500 ∧ 0 ≤ ra_g s 179 19 ∧ ra_g s 179 19 ≤ 999) ∧ ra_g σ 179 17 ≤ ra_g s 179 17) := by
    intro s hF hk0 hk1 hk2 hk3 hk4 hov hps hmo h8 hua hta h3 hadv
    have hw0 := WF_a hld.1
    unfold WFa at hw0
    have hl5 := hld.2.2.1
    have hus := US_k hk0.symm hua
    have hus2 := hus
    unfold US at hus2
    have e5 : ra_g s 180 5 = ra_g σ 180 5 := ra_gk hk0
    have e0 : ra_g s 180 0 = ra_g σ 180 0 := ra_gk hk0
    have e1 : ra_g s 180 1 = ra_g σ 180 1 := ra_gk hk0
    have e2 : ra_g s 180 2 = ra_g σ 180 2 := ra_gk hk0
    refine ra_load rfl rfl rfl rfl ?_
    refine ra_load rfl rfl rfl rfl ?_
    refine ra_getR rfl lk_8_38 (Nat.zero_le _) sh_179 rfl ?_
    refine ra_iconst rfl ?_
    refine ra_ialoadJ (j := 0) rfl sh_188 rfl (by decide) rfl (by decide) ?_
    have hr140 : ra_in (ra_g s (188) 0) := (ra_in_g _ _ _)
    refine ra_load rfl rfl rfl rfl ?_
    refine ra_getR rfl lk_8_38 (Nat.zero_le _) sh_179 rfl ?_
    refine ra_iconst rfl ?_
    refine ra_ialoadJ (j := 1) rfl sh_188 rfl (by decide) rfl (by decide) ?_
    have hr141 : ra_in (ra_g s (188) 1) := (ra_in_g _ _ _)
    refine ra_load rfl rfl rfl rfl ?_
    refine ra_getR rfl lk_8_38 (Nat.zero_le _) sh_179 rfl ?_
    refine ra_iconst rfl ?_
    refine ra_ialoadJ (j := 2) rfl sh_188 rfl (by decide) rfl (by decide) ?_
    have hr142 : ra_in (ra_g s (188) 2) := (ra_in_g _ _ _)
    refine ra_load rfl rfl rfl rfl ?_
    refine ra_getR rfl lk_8_38 (Nat.zero_le _) sh_179 rfl ?_
    refine ra_iconst rfl ?_
    refine ra_ialoadJ (j := 3) rfl sh_188 rfl (by decide) rfl (by decide) ?_
    have hr143 : ra_in (ra_g s (188) 3) := (ra_in_g _ _ _)
    refine ra_cIPs (sq_209 hr140 hr141 hr142 hr143 (LD_x (LD_k hk0 hld) (by omega)) (by omega) (by omega)) rfl (ct_209 rfl lk_8_250 (Or.inl rfl) sh_179 (Nat.le_of_ble_eq_true rfl)) (fun z145 s144 hz145 hz145p hs144 => ?_)
    have hF146 := Fr_tr (lo := 179) (hi := 189) hF hs144 (by omega)
    have hk147 : s144 (181) = σ (181) := (hs144 (181) (by omega)).trans hk1
    have hk148 : s144 (182) = σ (182) := (hs144 (182) (by omega)).trans hk2
    have hk149 : s144 (183) = σ (183) := (hs144 (183) (by omega)).trans hk3
    have hk150 : s144 (184) = σ (184) := (hs144 (184) (by omega)).trans hk4
    refine ra_store (L' := [_, _]) rfl rfl rfl (Nat.le_of_ble_eq_true rfl) rfl ?_
    refine ra_load rfl rfl rfl rfl ?_
    refine ra_iflt rfl rfl hz145 (fun h151 => ?_) (fun h151 => ?_)
    · refine ra_iconst rfl ?_
      exact ra_ireturn rfl (ra_okB (Or.inl rfl)) ⟨⟨_, (Or.inl rfl), (fun q => absurd q (by decide)), rfl⟩, ⟨hF146, hk147, hk148, hk149, hk150, (fun a h15 h16 h17 h18 h19 h20 h21 => ((ra_gk (hs144 179 (by omega))).trans (hov a h15 h16 h17 h18 h19 h20 h21))), (LD_new (LD_k hk0 hld) hz145p (by omega) hus (fun q => hta (TK_k hk0 q)) ⟨by omega, by omega⟩), (pt_e (ra_gk (hs144 179 (by omega))) (ra_gk (hs144 179 (by omega))) (ra_gk (hs144 179 (by omega))) (ra_gk (hs144 179 (by omega))) hps), (by have m_s144 : ra_g s144 179 17 = ra_g s 179 17 := (ra_gk (hs144 179 (by omega))); have k_s144 : ra_g s144 179 20 = ra_g s 179 20 := (ra_gk (hs144 179 (by omega))); omega)⟩⟩
    · refine ra_iconst rfl ?_
      refine ra_goto rfl rfl ?_
      exact ra_ireturn rfl (ra_okB (Or.inr rfl)) ⟨⟨_, (Or.inr rfl), (fun _ q => by have m_s144 : ra_g s144 179 17 = ra_g s 179 17 := (ra_gk (hs144 179 (by omega))); have k_s144 : ra_g s144 179 20 = ra_g s 179 20 := (ra_gk (hs144 179 (by omega))); have a := hadv (by omega); omega), rfl⟩, ⟨hF146, hk147, hk148, hk149, hk150, (fun a h15 h16 h17 h18 h19 h20 h21 => ((ra_gk (hs144 179 (by omega))).trans (hov a h15 h16 h17 h18 h19 h20 h21))), (LD_new (LD_k hk0 hld) hz145p (by omega) hus (fun q => hta (TK_k hk0 q)) ⟨by omega, by omega⟩), (pt_e (ra_gk (hs144 179 (by omega))) (ra_gk (hs144 179 (by omega))) (ra_gk (hs144 179 (by omega))) (ra_gk (hs144 179 (by omega))) hps), (by have m_s144 : ra_g s144 179 17 = ra_g s 179 17 := (ra_gk (hs144 179 (by omega))); have k_s144 : ra_g s144 179 20 = ra_g s 179 20 := (ra_gk (hs144 179 (by omega))); omega)⟩⟩
theorem lp_256_166 {n : Nat} {f : Nat → Int32} {d : Nat}  {σ : ra_V} (hpt : 0 ≤ ra_g σ 179 18 ∧ ra_g σ 179 18 ≤ ra_g σ 179 17 ∧ ra_g σ 179 17 ≤ ra_g σ 179 12 ∧ ra_g σ 179 12 ≤ 500 ∧ 0 ≤ ra_g σ 179 19 ∧ ra_g σ 179 19 ≤ 999) (hld : LD σ) : ∀ (s : ra_V) (hF : Fr (179) (189) σ s) (hk0 : s (180) = σ (180)) (hk1 : s (181) = σ (181)) (hk2 : s (182) = σ (182)) (hk3 : s (183) = σ (183)) (hk4 : s (184) = σ (184)) (hov : ∀ a, a ≠ 15 → a ≠ 16 → a ≠ 17 → a ≠ 18 → a ≠ 19 → a ≠ 20 → a ≠ 21 → ra_g s 179 a = ra_g σ 179 a) (hps : 0 ≤ ra_g s 179 18 ∧ ra_g s 179 18 ≤ ra_g s 179 17 ∧ ra_g s 179 17 ≤ ra_g s 179 12 ∧ ra_g s 179 12 ≤ 500 ∧ 0 ≤ ra_g s 179 19 ∧ ra_g s 179 19 ≤ 999) (hmo : ra_g σ 179 17 ≤ ra_g s 179 17) (h8 : ra_g σ 180 5 ≠ 8) (hua : US σ (ra_g s 188 0) (ra_g s 188 1)) (hta : ¬ TK σ (ra_g s 188 0) (ra_g s 188 1) (-1)) (h1 : 1 ≤ ra_g s 188 1 ∧ ra_g s 188 1 ≤ 999), ra_P (g_Gs n f) g_sh 0 (d + 4) g_m_X8_readPart 166 [some (.index (179)), none] [] s (fun r s => (∃ z : Int, (z = 0 ∨ z = 1) ∧ (z = 1 → ra_g s 179 20 = 3 → ra_g σ 179 17 < ra_g s 179 17) ∧ r = .inl (some (ra_I z))) ∧ Fr (179) (189) σ s ∧ s (181) = σ (181) ∧ s (182) = σ (182) ∧ s (183) = σ (183) ∧ s (184) = σ (184) ∧ (∀ a, a ≠ 15 → a ≠ 16 → a ≠ 17 → a ≠ 18 → a ≠ 19 → a ≠ 20 → a ≠ 21 → ra_g s 179 a = ra_g σ 179 a) ∧ LD s ∧ (0 ≤ ra_g s 179 18 ∧ ra_g s 179 18 ≤ ra_g s 179 17 ∧ ra_g s 179 17 ≤ ra_g s 179 12 ∧ ra_g s 179 12 ≤ 500 ∧ 0 ≤ ra_g s 179 19 ∧ ra_g s 179 19 ≤ 999) ∧ ra_g σ 179 17 ≤ ra_g s 179 17) := by
    intro s hF hk0 hk1 hk2 hk3 hk4 hov hps hmo h8 hua hta h1
    have hw0 := WF_a hld.1
    unfold WFa at hw0
    have hl5 := hld.2.2.1
    refine ra_load rfl rfl rfl rfl ?_
    refine ra_iconst rfl ?_
    refine ra_iconst rfl ?_
    refine ra_load rfl rfl rfl rfl ?_
    refine ra_getR rfl lk_8_38 (Nat.zero_le _) sh_179 rfl ?_
    refine ra_iconst rfl ?_
    refine ra_ialoadJ (j := 1) rfl sh_188 rfl (by decide) rfl (by decide) ?_
    have hr120 : ra_in (ra_g s (188) 1) := (ra_in_g _ _ _)
    refine ra_cQPs (sp_254 (by first | omega | (unfold ra_in at *; omega)) (by first | omega | (unfold ra_in at *; omega)) hr120 hps (by first | assumption | rfl | omega)) rfl (ct_254 rfl lk_8_246 (Or.inl rfl) sh_179 (Nat.le_of_ble_eq_true rfl)) (fun z122 s121 hz122 hz122p hs121 => ?_)
    obtain ⟨hf123, hc124, hc125, hc126, hc127, hc128, he129, he130, he131, he132⟩ := hs121
    have hF133 := Fr_tr (lo := 179) (hi := 189) hF hf123 (by omega)
    have hk134 : s121 (180) = σ (180) := hc124.trans hk0
    have hk135 : s121 (181) = σ (181) := hc125.trans hk1
    have hk136 : s121 (182) = σ (182) := hc126.trans hk2
    have hk137 : s121 (183) = σ (183) := hc127.trans hk3
    have hk138 : s121 (184) = σ (184) := hc128.trans hk4
    refine ra_ifne rfl rfl (ra_in01 hz122) (fun h139 => ?_) (fun h139 => ?_)
    · exact ra_weak (by repeat' constructor) (lp_256_183 hpt hld s121 hF133 hk134 hk135 hk136 hk137 hk138 (fun a h15 h16 h17 h18 h19 h20 h21 => ((he129 a h15 h16 h17 h18 h19 h20).trans (hov a h15 h16 h17 h18 h19 h20 h21))) he131 (by have m_s121 := he132; omega) (by first | assumption | omega) (by rw [show ra_g s121 188 0 = ra_g s 188 0 from (he130 0 (by decide)), show ra_g s121 188 1 = ra_g s 188 1 from (he130 1 (by decide))]; exact hua) (by rw [show ra_g s121 188 0 = ra_g s 188 0 from (he130 0 (by decide)), show ra_g s121 188 1 = ra_g s 188 1 from (he130 1 (by decide))]; exact hta) (by have a := hz122p (by omega); rw [toN3] at a; have e := (he130 1 (by decide) : ra_g s121 188 1 = ra_g s 188 1); omega) (fun q => by have m_s121 := he132; have a := hz122p (by omega); omega))
    · refine ra_iconst rfl ?_
      exact ra_ireturn rfl (ra_okB (Or.inl rfl)) ⟨⟨_, (Or.inl rfl), (fun q => absurd q (by decide)), rfl⟩, ⟨hF133, hk135, hk136, hk137, hk138, (fun a h15 h16 h17 h18 h19 h20 h21 => ((he129 a h15 h16 h17 h18 h19 h20).trans (hov a h15 h16 h17 h18 h19 h20 h21))), (LD_k hk134 hld), he131, (by have m_s121 := he132; omega)⟩⟩
theorem lp_256_155 {n : Nat} {f : Nat → Int32} {d : Nat}  {σ : ra_V} (hpt : 0 ≤ ra_g σ 179 18 ∧ ra_g σ 179 18 ≤ ra_g σ 179 17 ∧ ra_g σ 179 17 ≤ ra_g σ 179 12 ∧ ra_g σ 179 12 ≤ 500 ∧ 0 ≤ ra_g σ 179 19 ∧ ra_g σ 179 19 ≤ 999) (hld : LD σ) : ∀ (s : ra_V) (hF : Fr (179) (189) σ s) (hk0 : s (180) = σ (180)) (hk1 : s (181) = σ (181)) (hk2 : s (182) = σ (182)) (hk3 : s (183) = σ (183)) (hk4 : s (184) = σ (184)) (hov : ∀ a, a ≠ 15 → a ≠ 16 → a ≠ 17 → a ≠ 18 → a ≠ 19 → a ≠ 20 → a ≠ 21 → ra_g s 179 a = ra_g σ 179 a) (hps : 0 ≤ ra_g s 179 18 ∧ ra_g s 179 18 ≤ ra_g s 179 17 ∧ ra_g s 179 17 ≤ ra_g s 179 12 ∧ ra_g s 179 12 ≤ 500 ∧ 0 ≤ ra_g s 179 19 ∧ ra_g s 179 19 ≤ 999) (hmo : ra_g σ 179 17 ≤ ra_g s 179 17) (h8 : ra_g σ 180 5 ≠ 8) (hua : US σ (ra_g s 188 0) (ra_g s 188 1)) (hta : ¬ TK σ (ra_g s 188 0) (ra_g s 188 1) (-1)) (h1 : 1 ≤ ra_g s 188 1 ∧ ra_g s 188 1 ≤ 999), ra_P (g_Gs n f) g_sh 0 (d + 4) g_m_X8_readPart 155 [some (.index (179)), none] [] s (fun r s => (∃ z : Int, (z = 0 ∨ z = 1) ∧ (z = 1 → ra_g s 179 20 = 3 → ra_g σ 179 17 < ra_g s 179 17) ∧ r = .inl (some (ra_I z))) ∧ Fr (179) (189) σ s ∧ s (181) = σ (181) ∧ s (182) = σ (182) ∧ s (183) = σ (183) ∧ s (184) = σ (184) ∧ (∀ a, a ≠ 15 → a ≠ 16 → a ≠ 17 → a ≠ 18 → a ≠ 19 → a ≠ 20 → a ≠ 21 → ra_g s 179 a = ra_g σ 179 a) ∧ LD s ∧ (0 ≤ ra_g s 179 18 ∧ ra_g s 179 18 ≤ ra_g s 179 17 ∧ ra_g s 179 17 ≤ ra_g s 179 12 ∧ ra_g s 179 12 ≤ 500 ∧ 0 ≤ ra_g s 179 19 ∧ ra_g s 179 19 ≤ 999) ∧ ra_g σ 179 17 ≤ ra_g s 179 17) := by
    intro s hF hk0 hk1 hk2 hk3 hk4 hov hps hmo h8 hua hta h1
    have hw0 := WF_a hld.1
    unfold WFa at hw0
    have hl5 := hld.2.2.1
    refine ra_load rfl rfl rfl rfl ?_
    refine ra_iconst rfl ?_
    refine ra_iconst rfl ?_
    refine ra_bipush rfl (by decide) ?_
    refine ra_cQPs (sp_254 (by first | omega | (unfold ra_in at *; omega)) (by first | omega | (unfold ra_in at *; omega)) (by first | omega | (unfold ra_in at *; omega)) hps (by first | assumption | rfl | omega)) rfl (ct_254 rfl lk_8_246 (Or.inl rfl) sh_179 (Nat.le_of_ble_eq_true rfl)) (fun z102 s101 hz102 hz102p hs101 => ?_)
    obtain ⟨hf103, hc104, hc105, hc106, hc107, hc108, he109, he110, he111, he112⟩ := hs101
    have hF113 := Fr_tr (lo := 179) (hi := 189) hF hf103 (by omega)
    have hk114 : s101 (180) = σ (180) := hc104.trans hk0
    have hk115 : s101 (181) = σ (181) := hc105.trans hk1
    have hk116 : s101 (182) = σ (182) := hc106.trans hk2
    have hk117 : s101 (183) = σ (183) := hc107.trans hk3
    have hk118 : s101 (184) = σ (184) := hc108.trans hk4
    refine ra_ifeq rfl rfl (ra_in01 hz102) (fun h119 => ?_) (fun h119 => ?_)
    · refine ra_iconst rfl ?_
      exact ra_ireturn rfl (ra_okB (Or.inl rfl)) ⟨⟨_, (Or.inl rfl), (fun q => absurd q (by decide)), rfl⟩, ⟨hF113, hk115, hk116, hk117, hk118, (fun a h15 h16 h17 h18 h19 h20 h21 => ((he109 a h15 h16 h17 h18 h19 h20).trans (hov a h15 h16 h17 h18 h19 h20 h21))), (LD_k hk114 hld), he111, (by have m_s101 := he112; omega)⟩⟩
    · exact ra_weak (by repeat' constructor) (lp_256_166 hpt hld s101 hF113 hk114 hk115 hk116 hk117 hk118 (fun a h15 h16 h17 h18 h19 h20 h21 => ((he109 a h15 h16 h17 h18 h19 h20).trans (hov a h15 h16 h17 h18 h19 h20 h21))) he111 (by have m_s101 := he112; omega) (by first | assumption | omega) (by rw [show ra_g s101 188 0 = ra_g s 188 0 from (he110 0 (by decide)), show ra_g s101 188 1 = ra_g s 188 1 from (he110 1 (by decide))]; exact hua) (by rw [show ra_g s101 188 0 = ra_g s 188 0 from (he110 0 (by decide)), show ra_g s101 188 1 = ra_g s 188 1 from (he110 1 (by decide))]; exact hta) (by have e : ra_g s101 188 1 = ra_g s 188 1 := (he110 1 (by decide)); omega))
theorem lp_256_143 {n : Nat} {f : Nat → Int32} {d : Nat}  {σ : ra_V} (hpt : 0 ≤ ra_g σ 179 18 ∧ ra_g σ 179 18 ≤ ra_g σ 179 17 ∧ ra_g σ 179 17 ≤ ra_g σ 179 12 ∧ ra_g σ 179 12 ≤ 500 ∧ 0 ≤ ra_g σ 179 19 ∧ ra_g σ 179 19 ≤ 999) (hld : LD σ) : ∀ (s : ra_V) (hF : Fr (179) (189) σ s) (hk0 : s (180) = σ (180)) (hk1 : s (181) = σ (181)) (hk2 : s (182) = σ (182)) (hk3 : s (183) = σ (183)) (hk4 : s (184) = σ (184)) (hov : ∀ a, a ≠ 15 → a ≠ 16 → a ≠ 17 → a ≠ 18 → a ≠ 19 → a ≠ 20 → a ≠ 21 → ra_g s 179 a = ra_g σ 179 a) (hps : 0 ≤ ra_g s 179 18 ∧ ra_g s 179 18 ≤ ra_g s 179 17 ∧ ra_g s 179 17 ≤ ra_g s 179 12 ∧ ra_g s 179 12 ≤ 500 ∧ 0 ≤ ra_g s 179 19 ∧ ra_g s 179 19 ≤ 999) (hmo : ra_g σ 179 17 ≤ ra_g s 179 17) (h8 : ra_g σ 180 5 ≠ 8) (hu : US σ (ra_g s 188 0) (ra_g s 179 19)) (htk : ¬ TK σ (ra_g s 188 0) (ra_g s 179 19) (-1)), ra_P (g_Gs n f) g_sh 0 (d + 4) g_m_X8_readPart 143 [some (.index (179)), none] [] s (fun r s => (∃ z : Int, (z = 0 ∨ z = 1) ∧ (z = 1 → ra_g s 179 20 = 3 → ra_g σ 179 17 < ra_g s 179 17) ∧ r = .inl (some (ra_I z))) ∧ Fr (179) (189) σ s ∧ s (181) = σ (181) ∧ s (182) = σ (182) ∧ s (183) = σ (183) ∧ s (184) = σ (184) ∧ (∀ a, a ≠ 15 → a ≠ 16 → a ≠ 17 → a ≠ 18 → a ≠ 19 → a ≠ 20 → a ≠ 21 → ra_g s 179 a = ra_g σ 179 a) ∧ LD s ∧ (0 ≤ ra_g s 179 18 ∧ ra_g s 179 18 ≤ ra_g s 179 17 ∧ ra_g s 179 17 ≤ ra_g s 179 12 ∧ ra_g s 179 12 ≤ 500 ∧ 0 ≤ ra_g s 179 19 ∧ ra_g s 179 19 ≤ 999) ∧ ra_g σ 179 17 ≤ ra_g s 179 17) := by
    intro s hF hk0 hk1 hk2 hk3 hk4 hov hps hmo h8 hu htk
    have hw0 := WF_a hld.1
    unfold WFa at hw0
    have hl5 := hld.2.2.1
    refine ra_load rfl rfl rfl rfl ?_
    refine ra_iconst rfl ?_
    refine ra_iconst rfl ?_
    refine ra_sipush rfl (by decide) ?_
    refine ra_cQPs (sp_254 (by first | omega | (unfold ra_in at *; omega)) (by first | omega | (unfold ra_in at *; omega)) (by first | omega | (unfold ra_in at *; omega)) hps (by first | assumption | rfl | omega)) rfl (ct_254 rfl lk_8_246 (Or.inl rfl) sh_179 (Nat.le_of_ble_eq_true rfl)) (fun z83 s82 hz83 hz83p hs82 => ?_)
    obtain ⟨hf84, hc85, hc86, hc87, hc88, hc89, he90, he91, he92, he93⟩ := hs82
    have hF94 := Fr_tr (lo := 179) (hi := 189) hF hf84 (by omega)
    have hk95 : s82 (180) = σ (180) := hc85.trans hk0
    have hk96 : s82 (181) = σ (181) := hc86.trans hk1
    have hk97 : s82 (182) = σ (182) := hc87.trans hk2
    have hk98 : s82 (183) = σ (183) := hc88.trans hk3
    have hk99 : s82 (184) = σ (184) := hc89.trans hk4
    refine ra_ifeq rfl rfl (ra_in01 hz83) (fun h100 => ?_) (fun h100 => ?_)
    · refine ra_iconst rfl ?_
      exact ra_ireturn rfl (ra_okB (Or.inl rfl)) ⟨⟨_, (Or.inl rfl), (fun q => absurd q (by decide)), rfl⟩, ⟨hF94, hk96, hk97, hk98, hk99, (fun a h15 h16 h17 h18 h19 h20 h21 => ((he90 a h15 h16 h17 h18 h19 h20).trans (hov a h15 h16 h17 h18 h19 h20 h21))), (LD_k hk95 hld), he92, (by have m_s82 := he93; omega)⟩⟩
    · exact ra_weak (by repeat' constructor) (lp_256_155 hpt hld s82 hF94 hk95 hk96 hk97 hk98 hk99 (fun a h15 h16 h17 h18 h19 h20 h21 => ((he90 a h15 h16 h17 h18 h19 h20).trans (hov a h15 h16 h17 h18 h19 h20 h21))) he92 (by have m_s82 := he93; omega) (by first | assumption | omega) (by have hr1 := hz83p (by omega); rw [toN1] at hr1; have hr1 : (1 ≤ ra_g s82 188 1 ∧ ra_g s82 188 1 ≤ 999) ∧ ra_g s82 188 1 = ra_g s 179 19 := ⟨by omega, by omega⟩; have e0 : ra_g s82 188 0 = ra_g s 188 0 := (he91 0 (by decide)); rw [show ra_g s82 188 0 = ra_g s 188 0 by omega, show ra_g s82 188 1 = ra_g s 179 19 by omega]; exact hu) (by have hr1 := hz83p (by omega); rw [toN1] at hr1; have hr1 : (1 ≤ ra_g s82 188 1 ∧ ra_g s82 188 1 ≤ 999) ∧ ra_g s82 188 1 = ra_g s 179 19 := ⟨by omega, by omega⟩; have e0 : ra_g s82 188 0 = ra_g s 188 0 := (he91 0 (by decide)); rw [show ra_g s82 188 0 = ra_g s 188 0 by omega, show ra_g s82 188 1 = ra_g s 179 19 by omega]; exact htk) (by have hr1 := hz83p (by omega); rw [toN1] at hr1; have hr1 : (1 ≤ ra_g s82 188 1 ∧ ra_g s82 188 1 ≤ 999) ∧ ra_g s82 188 1 = ra_g s 179 19 := ⟨by omega, by omega⟩; have e0 : ra_g s82 188 0 = ra_g s 188 0 := (he91 0 (by decide)); omega))
theorem lp_256_92 {n : Nat} {f : Nat → Int32} {d : Nat}  {σ : ra_V} (hpt : 0 ≤ ra_g σ 179 18 ∧ ra_g σ 179 18 ≤ ra_g σ 179 17 ∧ ra_g σ 179 17 ≤ ra_g σ 179 12 ∧ ra_g σ 179 12 ≤ 500 ∧ 0 ≤ ra_g σ 179 19 ∧ ra_g σ 179 19 ≤ 999) (hld : LD σ) : ∀ (s : ra_V) (hF : Fr (179) (189) σ s) (hk0 : s (180) = σ (180)) (hk1 : s (181) = σ (181)) (hk2 : s (182) = σ (182)) (hk3 : s (183) = σ (183)) (hk4 : s (184) = σ (184)) (hov : ∀ a, a ≠ 15 → a ≠ 16 → a ≠ 17 → a ≠ 18 → a ≠ 19 → a ≠ 20 → a ≠ 21 → ra_g s 179 a = ra_g σ 179 a) (hps : 0 ≤ ra_g s 179 18 ∧ ra_g s 179 18 ≤ ra_g s 179 17 ∧ ra_g s 179 17 ≤ ra_g s 179 12 ∧ ra_g s 179 12 ≤ 500 ∧ 0 ≤ ra_g s 179 19 ∧ ra_g s 179 19 ≤ 999) (hmo : ra_g σ 179 17 ≤ ra_g s 179 17) (h8 : ra_g σ 180 5 ≠ 8) (hr : 0 ≤ ra_g s 188 0 ∧ ra_g s 188 0 ≤ 999) (hv : 1 ≤ ra_g s 179 19 ∧ ra_g s 179 19 ≤ 999), ra_P (g_Gs n f) g_sh 0 (d + 4) g_m_X8_readPart 92 [some (.index (179)), none] [] s (fun r s => (∃ z : Int, (z = 0 ∨ z = 1) ∧ (z = 1 → ra_g s 179 20 = 3 → ra_g σ 179 17 < ra_g s 179 17) ∧ r = .inl (some (ra_I z))) ∧ Fr (179) (189) σ s ∧ s (181) = σ (181) ∧ s (182) = σ (182) ∧ s (183) = σ (183) ∧ s (184) = σ (184) ∧ (∀ a, a ≠ 15 → a ≠ 16 → a ≠ 17 → a ≠ 18 → a ≠ 19 → a ≠ 20 → a ≠ 21 → ra_g s 179 a = ra_g σ 179 a) ∧ LD s ∧ (0 ≤ ra_g s 179 18 ∧ ra_g s 179 18 ≤ ra_g s 179 17 ∧ ra_g s 179 17 ≤ ra_g s 179 12 ∧ ra_g s 179 12 ≤ 500 ∧ 0 ≤ ra_g s 179 19 ∧ ra_g s 179 19 ≤ 999) ∧ ra_g σ 179 17 ≤ ra_g s 179 17) := by
    intro s hF hk0 hk1 hk2 hk3 hk4 hov hps hmo h8 hr hv
    have hw0 := WF_a hld.1
    unfold WFa at hw0
    have hl5 := hld.2.2.1
    refine ra_load rfl rfl rfl rfl ?_
    refine ra_load rfl rfl rfl rfl ?_
    refine ra_getR rfl lk_8_38 (Nat.zero_le _) sh_179 rfl ?_
    refine ra_iconst rfl ?_
    refine ra_ialoadJ (j := 0) rfl sh_188 rfl (by decide) rfl (by decide) ?_
    have hr72 : ra_in (ra_g s (188) 0) := (ra_in_g _ _ _)
    refine ra_i2l rfl hr72 ?_
    refine ra_load rfl rfl rfl rfl ?_
    refine ra_getI rfl lk_8_201 (Nat.zero_le _) sh_179 rfl ?_
    have hr73 : ra_in (ra_g s (179) 19) := (ra_in_g _ _ _)
    refine ra_i2l rfl hr73 ?_
    refine ra_cQPp (sp_210 hr72 hr73 (WF_a (LD_k hk0 hld).1)) rfl (ct_210 rfl lk_8_103 (Or.inl rfl) sh_179 (Nat.le_of_ble_eq_true rfl)) (fun z75 hz75 hz75p => ?_)
    refine ra_ifne rfl rfl (ra_in01 hz75) (fun h76 => ?_) (fun h76 => ?_)
    · refine ra_load rfl rfl rfl rfl ?_
      refine ra_load rfl rfl rfl rfl ?_
      refine ra_getR rfl lk_8_38 (Nat.zero_le _) sh_179 rfl ?_
      refine ra_iconst rfl ?_
      refine ra_ialoadJ (j := 0) rfl sh_188 rfl (by decide) rfl (by decide) ?_
      have hr77 : ra_in (ra_g s (188) 0) := (ra_in_g _ _ _)
      refine ra_i2l rfl hr77 ?_
      refine ra_load rfl rfl rfl rfl ?_
      refine ra_getI rfl lk_8_201 (Nat.zero_le _) sh_179 rfl ?_
      have hr78 : ra_in (ra_g s (179) 19) := (ra_in_g _ _ _)
      refine ra_i2l rfl hr78 ?_
      refine ra_iconst rfl ?_
      refine ra_cQPp (sp_212 hr77 hr78 (by first | omega | (unfold ra_in at *; omega))) rfl (ct_212 rfl lk_8_107 (Or.inl rfl) sh_179 (Nat.le_of_ble_eq_true rfl)) (fun z80 hz80 hz80p => ?_)
      refine ra_ifeq rfl rfl (ra_in01 hz80) (fun h81 => ?_) (fun h81 => ?_)
      · exact ra_weak (by repeat' constructor) (lp_256_143 hpt hld s hF hk0 hk1 hk2 hk3 hk4 (fun a h15 h16 h17 h18 h19 h20 h21 => (hov a h15 h16 h17 h18 h19 h20 h21)) hps (by omega) (by first | assumption | omega) (US_k hk0 (hz75p.mp (by omega))) (fun q => absurd (hz80p.mpr (TK_k hk0.symm q)) (by omega)))
      · refine ra_load rfl rfl rfl rfl ?_
        refine ra_iconst rfl ?_
        refine ra_cQP (sp_251 (by first | omega | (unfold ra_in at *; omega))) rfl (ct_251 rfl lk_8_233 (Or.inl rfl) sh_179 (Nat.le_of_ble_eq_true rfl)) (fun z153 s152 hz153 hz153p hs152 => ?_)
        obtain ⟨hf154, he155⟩ := hs152
        have hF156 := Fr_tr (lo := 179) (hi := 189) hF hf154 (by omega)
        have hk157 : s152 (180) = σ (180) := (hf154 (180) (by omega)).trans hk0
        have hk158 : s152 (181) = σ (181) := (hf154 (181) (by omega)).trans hk1
        have hk159 : s152 (182) = σ (182) := (hf154 (182) (by omega)).trans hk2
        have hk160 : s152 (183) = σ (183) := (hf154 (183) (by omega)).trans hk3
        have hk161 : s152 (184) = σ (184) := (hf154 (184) (by omega)).trans hk4
        exact ra_ireturn rfl (ra_okB hz153) ⟨⟨_, hz153, (fun q => absurd q (by omega)), rfl⟩, ⟨hF156, hk158, hk159, hk160, hk161, (fun a h15 h16 h17 h18 h19 h20 h21 => ((he155 a h15 h16).trans (hov a h15 h16 h17 h18 h19 h20 h21))), (LD_k hk157 hld), (pt_e (he155 12 (by decide) (by decide)) (he155 17 (by decide) (by decide)) (he155 18 (by decide) (by decide)) (he155 19 (by decide) (by decide)) hps), (by have m_s152 : ra_g s152 179 17 = ra_g s 179 17 := (he155 17 (by decide) (by decide)); have k_s152 : ra_g s152 179 20 = ra_g s 179 20 := (he155 20 (by decide) (by decide)); omega)⟩⟩
    · refine ra_load rfl rfl rfl rfl ?_
      refine ra_iconst rfl ?_
      refine ra_cQP (sp_251 (by first | omega | (unfold ra_in at *; omega))) rfl (ct_251 rfl lk_8_233 (Or.inl rfl) sh_179 (Nat.le_of_ble_eq_true rfl)) (fun z163 s162 hz163 hz163p hs162 => ?_)
      obtain ⟨hf164, he165⟩ := hs162
      have hF166 := Fr_tr (lo := 179) (hi := 189) hF hf164 (by omega)
      have hk167 : s162 (180) = σ (180) := (hf164 (180) (by omega)).trans hk0
      have hk168 : s162 (181) = σ (181) := (hf164 (181) (by omega)).trans hk1
      have hk169 : s162 (182) = σ (182) := (hf164 (182) (by omega)).trans hk2
      have hk170 : s162 (183) = σ (183) := (hf164 (183) (by omega)).trans hk3
      have hk171 : s162 (184) = σ (184) := (hf164 (184) (by omega)).trans hk4
      exact ra_ireturn rfl (ra_okB hz163) ⟨⟨_, hz163, (fun q => absurd q (by omega)), rfl⟩, ⟨hF166, hk168, hk169, hk170, hk171, (fun a h15 h16 h17 h18 h19 h20 h21 => ((he165 a h15 h16).trans (hov a h15 h16 h17 h18 h19 h20 h21))), (LD_k hk167 hld), (pt_e (he165 12 (by decide) (by decide)) (he165 17 (by decide) (by decide)) (he165 18 (by decide) (by decide)) (he165 19 (by decide) (by decide)) hps), (by have m_s162 : ra_g s162 179 17 = ra_g s 179 17 := (he165 17 (by decide) (by decide)); have k_s162 : ra_g s162 179 20 = ra_g s 179 20 := (he165 20 (by decide) (by decide)); omega)⟩⟩
theorem lp_256_67 {n : Nat} {f : Nat → Int32} {d : Nat}  {σ : ra_V} (hpt : 0 ≤ ra_g σ 179 18 ∧ ra_g σ 179 18 ≤ ra_g σ 179 17 ∧ ra_g σ 179 17 ≤ ra_g σ 179 12 ∧ ra_g σ 179 12 ≤ 500 ∧ 0 ≤ ra_g σ 179 19 ∧ ra_g σ 179 19 ≤ 999) (hld : LD σ) : ∀ (s : ra_V) (hF : Fr (179) (189) σ s) (hk0 : s (180) = σ (180)) (hk1 : s (181) = σ (181)) (hk2 : s (182) = σ (182)) (hk3 : s (183) = σ (183)) (hk4 : s (184) = σ (184)) (hov : ∀ a, a ≠ 15 → a ≠ 16 → a ≠ 17 → a ≠ 18 → a ≠ 19 → a ≠ 20 → a ≠ 21 → ra_g s 179 a = ra_g σ 179 a) (hps : 0 ≤ ra_g s 179 18 ∧ ra_g s 179 18 ≤ ra_g s 179 17 ∧ ra_g s 179 17 ≤ ra_g s 179 12 ∧ ra_g s 179 12 ≤ 500 ∧ 0 ≤ ra_g s 179 19 ∧ ra_g s 179 19 ≤ 999) (hmo : ra_g σ 179 17 ≤ ra_g s 179 17) (h8 : ra_g σ 180 5 ≠ 8), ra_P (g_Gs n f) g_sh 0 (d + 4) g_m_X8_readPart 67 [some (.index (179)), none] [] s (fun r s => (∃ z : Int, (z = 0 ∨ z = 1) ∧ (z = 1 → ra_g s 179 20 = 3 → ra_g σ 179 17 < ra_g s 179 17) ∧ r = .inl (some (ra_I z))) ∧ Fr (179) (189) σ s ∧ s (181) = σ (181) ∧ s (182) = σ (182) ∧ s (183) = σ (183) ∧ s (184) = σ (184) ∧ (∀ a, a ≠ 15 → a ≠ 16 → a ≠ 17 → a ≠ 18 → a ≠ 19 → a ≠ 20 → a ≠ 21 → ra_g s 179 a = ra_g σ 179 a) ∧ LD s ∧ (0 ≤ ra_g s 179 18 ∧ ra_g s 179 18 ≤ ra_g s 179 17 ∧ ra_g s 179 17 ≤ ra_g s 179 12 ∧ ra_g s 179 12 ≤ 500 ∧ 0 ≤ ra_g s 179 19 ∧ ra_g s 179 19 ≤ 999) ∧ ra_g σ 179 17 ≤ ra_g s 179 17) := by
    intro s hF hk0 hk1 hk2 hk3 hk4 hov hps hmo h8
    have hw0 := WF_a hld.1
    unfold WFa at hw0
    have hl5 := hld.2.2.1
    refine ra_load rfl rfl rfl rfl ?_
    refine ra_iconst rfl ?_
    refine ra_iconst rfl ?_
    refine ra_sipush rfl (by decide) ?_
    refine ra_cQPs (sp_254 (by first | omega | (unfold ra_in at *; omega)) (by first | omega | (unfold ra_in at *; omega)) (by first | omega | (unfold ra_in at *; omega)) hps (by first | assumption | rfl | omega)) rfl (ct_254 rfl lk_8_246 (Or.inl rfl) sh_179 (Nat.le_of_ble_eq_true rfl)) (fun z43 s42 hz43 hz43p hs42 => ?_)
    obtain ⟨hf44, hc45, hc46, hc47, hc48, hc49, he50, he51, he52, he53⟩ := hs42
    have hF54 := Fr_tr (lo := 179) (hi := 189) hF hf44 (by omega)
    have hk55 : s42 (180) = σ (180) := hc45.trans hk0
    have hk56 : s42 (181) = σ (181) := hc46.trans hk1
    have hk57 : s42 (182) = σ (182) := hc47.trans hk2
    have hk58 : s42 (183) = σ (183) := hc48.trans hk3
    have hk59 : s42 (184) = σ (184) := hc49.trans hk4
    refine ra_ifeq rfl rfl (ra_in01 hz43) (fun h60 => ?_) (fun h60 => ?_)
    · refine ra_iconst rfl ?_
      exact ra_ireturn rfl (ra_okB (Or.inl rfl)) ⟨⟨_, (Or.inl rfl), (fun q => absurd q (by decide)), rfl⟩, ⟨hF54, hk56, hk57, hk58, hk59, (fun a h15 h16 h17 h18 h19 h20 h21 => ((he50 a h15 h16 h17 h18 h19 h20).trans (hov a h15 h16 h17 h18 h19 h20 h21))), (LD_k hk55 hld), he52, (by have m_s42 := he53; omega)⟩⟩
    · have hr0 := hz43p (by omega)
      rw [toN0] at hr0
      refine ra_load rfl rfl rfl rfl ?_
      refine ra_iconst rfl ?_
      refine ra_sipush rfl (by decide) ?_
      refine ra_cQP (sp_253 (by first | omega | (unfold ra_in at *; omega)) (by first | omega | (unfold ra_in at *; omega)) (by have q := he52; omega)) rfl (ct_253 rfl lk_8_236 (Or.inl rfl) sh_179 (Nat.le_of_ble_eq_true rfl)) (fun z62 s61 hz62 hz62p hs61 => ?_)
      obtain ⟨hf63, he64⟩ := hs61
      have hF65 := Fr_tr (lo := 179) (hi := 189) hF54 hf63 (by omega)
      have hk66 : s61 (180) = σ (180) := (hf63 (180) (by omega)).trans hk55
      have hk67 : s61 (181) = σ (181) := (hf63 (181) (by omega)).trans hk56
      have hk68 : s61 (182) = σ (182) := (hf63 (182) (by omega)).trans hk57
      have hk69 : s61 (183) = σ (183) := (hf63 (183) (by omega)).trans hk58
      have hk70 : s61 (184) = σ (184) := (hf63 (184) (by omega)).trans hk59
      refine ra_ifne rfl rfl (ra_in01 hz62) (fun h71 => ?_) (fun h71 => ?_)
      · exact ra_weak (by repeat' constructor) (lp_256_92 hpt hld s61 hF65 hk66 hk67 hk68 hk69 hk70 (fun a h15 h16 h17 h18 h19 h20 h21 => ((he64 a h15 h16).trans ((he50 a h15 h16 h17 h18 h19 h20).trans (hov a h15 h16 h17 h18 h19 h20 h21)))) (pt_e (he64 12 (by decide) (by decide)) (he64 17 (by decide) (by decide)) (he64 18 (by decide) (by decide)) (he64 19 (by decide) (by decide)) he52) (by have m_s42 := he53; have m_s61 : ra_g s61 179 17 = ra_g s42 179 17 := (he64 17 (by decide) (by decide)); have k_s61 : ra_g s61 179 20 = ra_g s42 179 20 := (he64 20 (by decide) (by decide)); omega) (by first | assumption | omega) (by have e := (ra_gk (hf63 188 (by omega)) : ra_g s61 188 0 = ra_g s42 188 0); omega) (by have e := (he64 19 (by decide) (by decide)); have a := hz62p (by omega); omega))
      · refine ra_iconst rfl ?_
        exact ra_ireturn rfl (ra_okB (Or.inl rfl)) ⟨⟨_, (Or.inl rfl), (fun q => absurd q (by decide)), rfl⟩, ⟨hF65, hk67, hk68, hk69, hk70, (fun a h15 h16 h17 h18 h19 h20 h21 => ((he64 a h15 h16).trans ((he50 a h15 h16 h17 h18 h19 h20).trans (hov a h15 h16 h17 h18 h19 h20 h21)))), (LD_k hk66 hld), (pt_e (he64 12 (by decide) (by decide)) (he64 17 (by decide) (by decide)) (he64 18 (by decide) (by decide)) (he64 19 (by decide) (by decide)) he52), (by have m_s42 := he53; have m_s61 : ra_g s61 179 17 = ra_g s42 179 17 := (he64 17 (by decide) (by decide)); have k_s61 : ra_g s61 179 20 = ra_g s42 179 20 := (he64 20 (by decide) (by decide)); omega)⟩⟩
theorem sp_256 {n : Nat} {f : Nat → Int32} {d : Nat}  {σ : ra_V} (hpt : 0 ≤ ra_g σ 179 18 ∧ ra_g σ 179 18 ≤ ra_g σ 179 17 ∧ ra_g σ 179 17 ≤ ra_g σ 179 12 ∧ ra_g σ 179 12 ≤ 500 ∧ 0 ≤ ra_g σ 179 19 ∧ ra_g σ 179 19 ≤ 999) (hld : LD σ) : ra_C (g_Gs n f) g_sh 0 (d + 5) 256 [.index (179)] σ (fun r s => (∃ z : Int, (z = 0 ∨ z = 1) ∧ (z = 1 → ra_g s 179 20 = 3 → ra_g σ 179 17 < ra_g s 179 17) ∧ r = .inl (some (ra_I z))) ∧ Fr (179) (189) σ s ∧ s (181) = σ (181) ∧ s (182) = σ (182) ∧ s (183) = σ (183) ∧ s (184) = σ (184) ∧ (∀ a, a ≠ 15 → a ≠ 16 → a ≠ 17 → a ≠ 18 → a ≠ 19 → a ≠ 20 → a ≠ 21 → ra_g s 179 a = ra_g σ 179 a) ∧ LD s ∧ (0 ≤ ra_g s 179 18 ∧ ra_g s 179 18 ≤ ra_g s 179 17 ∧ ra_g s 179 17 ≤ ra_g s 179 12 ∧ ra_g s 179 12 ≤ 500 ∧ 0 ≤ ra_g s 179 19 ∧ ra_g s 179 19 ≤ 999) ∧ ra_g σ 179 17 ≤ ra_g s 179 17) := by
  refine ra_enter (nn := 1) mt_256 rfl (Nat.le_of_ble_eq_true rfl) rfl (fun h => absurd h (by decide +kernel)) ?_
  have hw0 := WF_a hld.1
  unfold WFa at hw0
  have hl5 := hld.2.2.1
  refine ra_load rfl rfl rfl rfl ?_
  refine ra_getR rfl lk_8_7 (Nat.zero_le _) sh_179 rfl ?_
  refine ra_iconst rfl ?_
  refine ra_ialoadJ (j := 5) rfl sh_180 rfl (by decide) rfl (by decide) ?_
  have hr1 : ra_in (ra_g σ (180) 5) := (ra_in_g _ _ _)
  refine ra_bipush rfl (by decide) ?_
  refine ra_icne rfl rfl hr1 (by first | omega | (unfold ra_in at *; omega)) (fun h2 => ?_) (fun h2 => ?_)
  · refine ra_load rfl rfl rfl rfl ?_
    refine ra_cV (sp_249 (by have q := hpt; omega)) rfl (ct_249 rfl lk_8_240 (Or.inl rfl) sh_179 (Nat.le_of_ble_eq_true rfl)) (fun s3 hs3 => ?_)
    obtain ⟨hf4, he5, he6, he7⟩ := hs3
    have hF8 := Fr_tr (lo := 179) (hi := 189) Fr_rf hf4 (by omega)
    have hk9 : s3 (180) = σ (180) := (hf4 (180) (by omega))
    have hk10 : s3 (181) = σ (181) := (hf4 (181) (by omega))
    have hk11 : s3 (182) = σ (182) := (hf4 (182) (by omega))
    have hk12 : s3 (183) = σ (183) := (hf4 (183) (by omega))
    have hk13 : s3 (184) = σ (184) := (hf4 (184) (by omega))
    refine ra_load rfl rfl rfl rfl ?_
    refine ra_iconst rfl ?_
    refine ra_sipush rfl (by decide) ?_
    refine ra_cQP (sp_253 (by first | omega | (unfold ra_in at *; omega)) (by first | omega | (unfold ra_in at *; omega)) (by have q := he6; omega)) rfl (ct_253 rfl lk_8_236 (Or.inl rfl) sh_179 (Nat.le_of_ble_eq_true rfl)) (fun z15 s14 hz15 hz15p hs14 => ?_)
    obtain ⟨hf16, he17⟩ := hs14
    have hF18 := Fr_tr (lo := 179) (hi := 189) hF8 hf16 (by omega)
    have hk19 : s14 (180) = σ (180) := (hf16 (180) (by omega)).trans hk9
    have hk20 : s14 (181) = σ (181) := (hf16 (181) (by omega)).trans hk10
    have hk21 : s14 (182) = σ (182) := (hf16 (182) (by omega)).trans hk11
    have hk22 : s14 (183) = σ (183) := (hf16 (183) (by omega)).trans hk12
    have hk23 : s14 (184) = σ (184) := (hf16 (184) (by omega)).trans hk13
    refine ra_ifne rfl rfl (ra_in01 hz15) (fun h24 => ?_) (fun h24 => ?_)
    · refine ra_load rfl rfl rfl rfl ?_
      refine ra_load rfl rfl rfl rfl ?_
      refine ra_getI rfl lk_8_201 (Nat.zero_le _) sh_179 rfl ?_
      have hr25 : ra_in (ra_g s14 (179) 19) := (ra_in_g _ _ _)
      refine ra_i2l rfl hr25 ?_
      refine ra_lconst1 rfl ?_
      refine ra_cQPp (sp_210 hr25 (by first | omega | (unfold ra_in at *; omega)) (WF_a (LD_k hk19 hld).1)) rfl (ct_210 rfl lk_8_103 (Or.inl rfl) sh_179 (Nat.le_of_ble_eq_true rfl)) (fun z27 hz27 hz27p => ?_)
      refine ra_ifeq rfl rfl (ra_in01 hz27) (fun h28 => ?_) (fun h28 => ?_)
      · refine ra_load rfl rfl rfl rfl ?_
        refine ra_iconst rfl ?_
        refine ra_cQP (sp_251 (by first | omega | (unfold ra_in at *; omega))) rfl (ct_251 rfl lk_8_233 (Or.inl rfl) sh_179 (Nat.le_of_ble_eq_true rfl)) (fun z30 s29 hz30 hz30p hs29 => ?_)
        obtain ⟨hf31, he32⟩ := hs29
        have hF33 := Fr_tr (lo := 179) (hi := 189) hF18 hf31 (by omega)
        have hk34 : s29 (180) = σ (180) := (hf31 (180) (by omega)).trans hk19
        have hk35 : s29 (181) = σ (181) := (hf31 (181) (by omega)).trans hk20
        have hk36 : s29 (182) = σ (182) := (hf31 (182) (by omega)).trans hk21
        have hk37 : s29 (183) = σ (183) := (hf31 (183) (by omega)).trans hk22
        have hk38 : s29 (184) = σ (184) := (hf31 (184) (by omega)).trans hk23
        exact ra_ireturn rfl (ra_okB hz30) ⟨⟨_, hz30, (fun q => absurd q (by omega)), rfl⟩, ⟨hF33, hk35, hk36, hk37, hk38, (fun a h15 h16 h17 h18 h19 h20 h21 => ((he32 a h15 h16).trans ((he17 a h15 h16).trans (he5 a h17 h18 h19 h20)))), (LD_k hk34 hld), (pt_e (he32 12 (by decide) (by decide)) (he32 17 (by decide) (by decide)) (he32 18 (by decide) (by decide)) (he32 19 (by decide) (by decide)) (pt_e (he17 12 (by decide) (by decide)) (he17 17 (by decide) (by decide)) (he17 18 (by decide) (by decide)) (he17 19 (by decide) (by decide)) he6)), (by have m_s3 := he7.1; have m_s14 : ra_g s14 179 17 = ra_g s3 179 17 := (he17 17 (by decide) (by decide)); have k_s14 : ra_g s14 179 20 = ra_g s3 179 20 := (he17 20 (by decide) (by decide)); have m_s29 : ra_g s29 179 17 = ra_g s14 179 17 := (he32 17 (by decide) (by decide)); have k_s29 : ra_g s29 179 20 = ra_g s14 179 20 := (he32 20 (by decide) (by decide)); omega)⟩⟩
      · refine ra_load rfl rfl rfl rfl ?_
        refine ra_getI rfl lk_8_201 (Nat.zero_le _) sh_179 rfl ?_
        have hr39 : ra_in (ra_g s14 (179) 19) := (ra_in_g _ _ _)
        refine ra_load rfl rfl rfl rfl ?_
        refine ra_getR rfl lk_8_7 (Nat.zero_le _) sh_179 rfl ?_
        refine ra_iconst rfl ?_
        refine ra_ialoadJ (j := 3) rfl sh_180 rfl (by decide) rfl (by decide) ?_
        rw [ra_gk hk19]
        have hr40 : ra_in (ra_g σ (180) 3) := (ra_in_g _ _ _)
        refine ra_irem rfl hr39 hr40 (by omega) ?_
        refine ra_ifeq rfl rfl (ra_in_tmod hr39 (by omega)) (fun h41 => ?_) (fun h41 => ?_)
        · exact ra_weak (by repeat' constructor) (lp_256_67 hpt hld s14 hF18 hk19 hk20 hk21 hk22 hk23 (fun a h15 h16 h17 h18 h19 h20 h21 => ((he17 a h15 h16).trans (he5 a h17 h18 h19 h20))) (pt_e (he17 12 (by decide) (by decide)) (he17 17 (by decide) (by decide)) (he17 18 (by decide) (by decide)) (he17 19 (by decide) (by decide)) he6) (by have m_s3 := he7.1; have m_s14 : ra_g s14 179 17 = ra_g s3 179 17 := (he17 17 (by decide) (by decide)); have k_s14 : ra_g s14 179 20 = ra_g s3 179 20 := (he17 20 (by decide) (by decide)); omega) (by first | assumption | omega))
        · refine ra_load rfl rfl rfl rfl ?_
          refine ra_iconst rfl ?_
          refine ra_cQP (sp_251 (by first | omega | (unfold ra_in at *; omega))) rfl (ct_251 rfl lk_8_233 (Or.inl rfl) sh_179 (Nat.le_of_ble_eq_true rfl)) (fun z173 s172 hz173 hz173p hs172 => ?_)
          obtain ⟨hf174, he175⟩ := hs172
          have hF176 := Fr_tr (lo := 179) (hi := 189) hF18 hf174 (by omega)
          have hk177 : s172 (180) = σ (180) := (hf174 (180) (by omega)).trans hk19
          have hk178 : s172 (181) = σ (181) := (hf174 (181) (by omega)).trans hk20
          have hk179 : s172 (182) = σ (182) := (hf174 (182) (by omega)).trans hk21
          have hk180 : s172 (183) = σ (183) := (hf174 (183) (by omega)).trans hk22
          have hk181 : s172 (184) = σ (184) := (hf174 (184) (by omega)).trans hk23
          exact ra_ireturn rfl (ra_okB hz173) ⟨⟨_, hz173, (fun q => absurd q (by omega)), rfl⟩, ⟨hF176, hk178, hk179, hk180, hk181, (fun a h15 h16 h17 h18 h19 h20 h21 => ((he175 a h15 h16).trans ((he17 a h15 h16).trans (he5 a h17 h18 h19 h20)))), (LD_k hk177 hld), (pt_e (he175 12 (by decide) (by decide)) (he175 17 (by decide) (by decide)) (he175 18 (by decide) (by decide)) (he175 19 (by decide) (by decide)) (pt_e (he17 12 (by decide) (by decide)) (he17 17 (by decide) (by decide)) (he17 18 (by decide) (by decide)) (he17 19 (by decide) (by decide)) he6)), (by have m_s3 := he7.1; have m_s14 : ra_g s14 179 17 = ra_g s3 179 17 := (he17 17 (by decide) (by decide)); have k_s14 : ra_g s14 179 20 = ra_g s3 179 20 := (he17 20 (by decide) (by decide)); have m_s172 : ra_g s172 179 17 = ra_g s14 179 17 := (he175 17 (by decide) (by decide)); have k_s172 : ra_g s172 179 20 = ra_g s14 179 20 := (he175 20 (by decide) (by decide)); omega)⟩⟩
    · refine ra_iconst rfl ?_
      exact ra_ireturn rfl (ra_okB (Or.inl rfl)) ⟨⟨_, (Or.inl rfl), (fun q => absurd q (by decide)), rfl⟩, ⟨hF18, hk20, hk21, hk22, hk23, (fun a h15 h16 h17 h18 h19 h20 h21 => ((he17 a h15 h16).trans (he5 a h17 h18 h19 h20))), (LD_k hk19 hld), (pt_e (he17 12 (by decide) (by decide)) (he17 17 (by decide) (by decide)) (he17 18 (by decide) (by decide)) (he17 19 (by decide) (by decide)) he6), (by have m_s3 := he7.1; have m_s14 : ra_g s14 179 17 = ra_g s3 179 17 := (he17 17 (by decide) (by decide)); have k_s14 : ra_g s14 179 20 = ra_g s3 179 20 := (he17 20 (by decide) (by decide)); omega)⟩⟩
  · refine ra_load rfl rfl rfl rfl ?_
    refine ra_iconst rfl ?_
    refine ra_cQP (sp_251 (by first | omega | (unfold ra_in at *; omega))) rfl (ct_251 rfl lk_8_233 (Or.inl rfl) sh_179 (Nat.le_of_ble_eq_true rfl)) (fun z183 s182 hz183 hz183p hs182 => ?_)
    obtain ⟨hf184, he185⟩ := hs182
    have hF186 := Fr_tr (lo := 179) (hi := 189) Fr_rf hf184 (by omega)
    have hk187 : s182 (180) = σ (180) := (hf184 (180) (by omega))
    have hk188 : s182 (181) = σ (181) := (hf184 (181) (by omega))
    have hk189 : s182 (182) = σ (182) := (hf184 (182) (by omega))
    have hk190 : s182 (183) = σ (183) := (hf184 (183) (by omega))
    have hk191 : s182 (184) = σ (184) := (hf184 (184) (by omega))
    exact ra_ireturn rfl (ra_okB hz183) ⟨⟨_, hz183, (fun q => absurd q (by omega)), rfl⟩, ⟨hF186, hk188, hk189, hk190, hk191, (fun a h15 h16 h17 h18 h19 h20 h21 => (he185 a h15 h16)), (LD_k hk187 hld), (pt_e (he185 12 (by decide) (by decide)) (he185 17 (by decide) (by decide)) (he185 18 (by decide) (by decide)) (he185 19 (by decide) (by decide)) hpt), (by have m_s182 : ra_g s182 179 17 = ra_g σ 179 17 := (he185 17 (by decide) (by decide)); have k_s182 : ra_g s182 179 20 = ra_g σ 179 20 := (he185 20 (by decide) (by decide)); omega)⟩⟩
theorem sp_257 {n : Nat} {f : Nat → Int32} {d : Nat}  {σ : ra_V} (hpt : 0 ≤ ra_g σ 179 18 ∧ ra_g σ 179 18 ≤ ra_g σ 179 17 ∧ ra_g σ 179 17 ≤ ra_g σ 179 12 ∧ ra_g σ 179 12 ≤ 500 ∧ 0 ≤ ra_g σ 179 19 ∧ ra_g σ 179 19 ≤ 999) (hld : LD σ) : ra_C (g_Gs n f) g_sh 0 (d + 3) 257 [.index (179)] σ (fun r s => (∃ z : Int, (z = 0 ∨ z = 1) ∧ (z = 1 → ra_g s 179 20 = 3 → ra_g σ 179 17 < ra_g s 179 17) ∧ r = .inl (some (ra_I z))) ∧ Fr (179) (189) σ s ∧ s (181) = σ (181) ∧ s (182) = σ (182) ∧ s (183) = σ (183) ∧ s (184) = σ (184) ∧ (∀ a, a ≠ 15 → a ≠ 16 → a ≠ 17 → a ≠ 18 → a ≠ 19 → a ≠ 20 → a ≠ 21 → ra_g s 179 a = ra_g σ 179 a) ∧ LD s ∧ (0 ≤ ra_g s 179 18 ∧ ra_g s 179 18 ≤ ra_g s 179 17 ∧ ra_g s 179 17 ≤ ra_g s 179 12 ∧ ra_g s 179 12 ≤ 500 ∧ 0 ≤ ra_g s 179 19 ∧ ra_g s 179 19 ≤ 999) ∧ ra_g σ 179 17 ≤ ra_g s 179 17) := by
  refine ra_enter (nn := 0) mt_257 rfl (Nat.le_of_ble_eq_true rfl) rfl (fun h => absurd h (by decide +kernel)) ?_
  have hw0 := WF_a hld.1
  unfold WFa at hw0
  have hl5 := hld.2.2.1
  refine ra_load rfl rfl rfl rfl ?_
  refine ra_cV (sp_249 (by have q := hpt; omega)) rfl (ct_249 rfl lk_8_240 (Or.inl rfl) sh_179 (Nat.le_of_ble_eq_true rfl)) (fun s1 hs1 => ?_)
  obtain ⟨hf2, he3, he4, he5⟩ := hs1
  have hF6 := Fr_tr (lo := 179) (hi := 189) Fr_rf hf2 (by omega)
  have hk7 : s1 (180) = σ (180) := (hf2 (180) (by omega))
  have hk8 : s1 (181) = σ (181) := (hf2 (181) (by omega))
  have hk9 : s1 (182) = σ (182) := (hf2 (182) (by omega))
  have hk10 : s1 (183) = σ (183) := (hf2 (183) (by omega))
  have hk11 : s1 (184) = σ (184) := (hf2 (184) (by omega))
  refine ra_load rfl rfl rfl rfl ?_
  refine ra_iconst rfl ?_
  refine ra_load rfl rfl rfl rfl ?_
  refine ra_getR rfl lk_8_7 (Nat.zero_le _) sh_179 rfl ?_
  refine ra_iconst rfl ?_
  refine ra_ialoadJ (j := 5) rfl sh_180 rfl (by decide) rfl (by decide) ?_
  rw [ra_gk hk7]
  have hr12 : ra_in (ra_g σ (180) 5) := (ra_in_g _ _ _)
  refine ra_iconst rfl ?_
  refine ra_isub rfl ?_
  refine ra_cQP (sp_253 (by first | omega | (unfold ra_in at *; omega)) (by first | omega | (unfold ra_in at *; omega)) (by have q := he4; omega)) rfl (ct_253 rfl lk_8_236 (Or.inl rfl) sh_179 (Nat.le_of_ble_eq_true rfl)) (fun z14 s13 hz14 hz14p hs13 => ?_)
  obtain ⟨hf15, he16⟩ := hs13
  have hF17 := Fr_tr (lo := 179) (hi := 189) hF6 hf15 (by omega)
  have hk18 : s13 (180) = σ (180) := (hf15 (180) (by omega)).trans hk7
  have hk19 : s13 (181) = σ (181) := (hf15 (181) (by omega)).trans hk8
  have hk20 : s13 (182) = σ (182) := (hf15 (182) (by omega)).trans hk9
  have hk21 : s13 (183) = σ (183) := (hf15 (183) (by omega)).trans hk10
  have hk22 : s13 (184) = σ (184) := (hf15 (184) (by omega)).trans hk11
  refine ra_ifne rfl rfl (ra_in01 hz14) (fun h23 => ?_) (fun h23 => ?_)
  · have hv := hz14p (by omega)
    have ev_s13 : ra_g s13 179 19 = ra_g s1 179 19 := (he16 19 (by decide) (by decide))
    have e5 : ra_g s1 180 5 = ra_g σ 180 5 := ra_gk (hf2 180 (by omega))
    refine ra_load rfl rfl rfl rfl ?_
    refine ra_load rfl rfl rfl rfl ?_
    refine ra_getI rfl lk_8_201 (Nat.zero_le _) sh_179 rfl ?_
    have hr24 : ra_in (ra_g s13 (179) 19) := (ra_in_g _ _ _)
    refine ra_iconst rfl ?_
    refine ra_cTp (sp_199 hr24 (by first | omega | (unfold ra_in at *; omega)) (by first | assumption | rfl | omega)) rfl (ct_199 rfl lk_8_67 (Or.inl rfl) sh_179 (Nat.le_of_ble_eq_true rfl)) ?_
    rw [wq_k hk18]
    have hr26 : ra_in (wq σ (ra_g s13 (179) 19) (5)) := (ra_in_wq _ _ _)
    refine ra_iconst rfl ?_
    refine ra_icne rfl rfl hr26 (by first | omega | (unfold ra_in at *; omega)) (fun h27 => ?_) (fun h27 => ?_)
    · refine ra_load rfl rfl rfl rfl ?_
      refine ra_load rfl rfl rfl rfl ?_
      refine ra_getI rfl lk_8_201 (Nat.zero_le _) sh_179 rfl ?_
      have hr28 : ra_in (ra_g s13 (179) 19) := (ra_in_g _ _ _)
      refine ra_iconst rfl ?_
      refine ra_iconst rfl ?_
      refine ra_cV (sp_200 hr28 (by first | omega | (unfold ra_in at *; omega)) (by first | omega | (unfold ra_in at *; omega)) (by first | assumption | rfl | omega)) rfl (ct_200 rfl lk_8_78 (Or.inl rfl) sh_179 (Nat.le_of_ble_eq_true rfl)) (fun s29 hs29 => ?_)
      obtain ⟨hf30, he31, he32⟩ := hs29
      have hF33 := Fr_tr (lo := 179) (hi := 189) hF17 hf30 (by omega)
      have hk34 : s29 (181) = σ (181) := (hf30 (181) (by omega)).trans hk19
      have hk35 : s29 (182) = σ (182) := (hf30 (182) (by omega)).trans hk20
      have hk36 : s29 (183) = σ (183) := (hf30 (183) (by omega)).trans hk21
      have hk37 : s29 (184) = σ (184) := (hf30 (184) (by omega)).trans hk22
      refine ra_load rfl rfl rfl rfl ?_
      refine ra_cV (sp_249 (by have q := (pt_e (ra_gk (hf30 179 (by omega))) (ra_gk (hf30 179 (by omega))) (ra_gk (hf30 179 (by omega))) (ra_gk (hf30 179 (by omega))) (pt_e (he16 12 (by decide) (by decide)) (he16 17 (by decide) (by decide)) (he16 18 (by decide) (by decide)) (he16 19 (by decide) (by decide)) he4)); omega)) rfl (ct_249 rfl lk_8_240 (Or.inl rfl) sh_179 (Nat.le_of_ble_eq_true rfl)) (fun s38 hs38 => ?_)
      obtain ⟨hf39, he40, he41, he42⟩ := hs38
      have hF43 := Fr_tr (lo := 179) (hi := 189) hF33 hf39 (by omega)
      have hk44 : s38 (181) = σ (181) := (hf39 (181) (by omega)).trans hk34
      have hk45 : s38 (182) = σ (182) := (hf39 (182) (by omega)).trans hk35
      have hk46 : s38 (183) = σ (183) := (hf39 (183) (by omega)).trans hk36
      have hk47 : s38 (184) = σ (184) := (hf39 (184) (by omega)).trans hk37
      refine ra_iconst rfl ?_
      exact ra_ireturn rfl (ra_okB (Or.inr rfl)) ⟨⟨_, (Or.inr rfl), (fun _ q => by have m_s1 := he5.1; have m_s13 : ra_g s13 179 17 = ra_g s1 179 17 := (he16 17 (by decide) (by decide)); have k_s13 : ra_g s13 179 20 = ra_g s1 179 20 := (he16 20 (by decide) (by decide)); have m_s29 : ra_g s29 179 17 = ra_g s13 179 17 := (ra_gk (hf30 179 (by omega))); have k_s29 : ra_g s29 179 20 = ra_g s13 179 20 := (ra_gk (hf30 179 (by omega))); have m_s38 := he42.1; have m_a := he42.2; omega), rfl⟩, ⟨hF43, hk44, hk45, hk46, hk47, (fun a h15 h16 h17 h18 h19 h20 h21 => ((he40 a h17 h18 h19 h20).trans ((ra_gk (hf30 179 (by omega))).trans ((he16 a h15 h16).trans (he3 a h17 h18 h19 h20))))), (LD_k (hf39 180 (by omega)) (LD_lock (LD_k (hf15 180 (by omega)) (LD_k (hf2 180 (by omega)) hld)) ⟨by omega, by omega⟩ he32)), he41, (by have m_s1 := he5.1; have m_s13 : ra_g s13 179 17 = ra_g s1 179 17 := (he16 17 (by decide) (by decide)); have k_s13 : ra_g s13 179 20 = ra_g s1 179 20 := (he16 20 (by decide) (by decide)); have m_s29 : ra_g s29 179 17 = ra_g s13 179 17 := (ra_gk (hf30 179 (by omega))); have k_s29 : ra_g s29 179 20 = ra_g s13 179 20 := (ra_gk (hf30 179 (by omega))); have m_s38 := he42.1; omega)⟩⟩
    · refine ra_load rfl rfl rfl rfl ?_
      refine ra_iconst rfl ?_
      refine ra_cQP (sp_251 (by first | omega | (unfold ra_in at *; omega))) rfl (ct_251 rfl lk_8_233 (Or.inl rfl) sh_179 (Nat.le_of_ble_eq_true rfl)) (fun z49 s48 hz49 hz49p hs48 => ?_)
      obtain ⟨hf50, he51⟩ := hs48
      have hF52 := Fr_tr (lo := 179) (hi := 189) hF17 hf50 (by omega)
      have hk53 : s48 (180) = σ (180) := (hf50 (180) (by omega)).trans hk18
      have hk54 : s48 (181) = σ (181) := (hf50 (181) (by omega)).trans hk19
      have hk55 : s48 (182) = σ (182) := (hf50 (182) (by omega)).trans hk20
      have hk56 : s48 (183) = σ (183) := (hf50 (183) (by omega)).trans hk21
      have hk57 : s48 (184) = σ (184) := (hf50 (184) (by omega)).trans hk22
      exact ra_ireturn rfl (ra_okB hz49) ⟨⟨_, hz49, (fun q => absurd q (by omega)), rfl⟩, ⟨hF52, hk54, hk55, hk56, hk57, (fun a h15 h16 h17 h18 h19 h20 h21 => ((he51 a h15 h16).trans ((he16 a h15 h16).trans (he3 a h17 h18 h19 h20)))), (LD_k (hf50 180 (by omega)) (LD_k (hf15 180 (by omega)) (LD_k (hf2 180 (by omega)) hld))), (pt_e (he51 12 (by decide) (by decide)) (he51 17 (by decide) (by decide)) (he51 18 (by decide) (by decide)) (he51 19 (by decide) (by decide)) (pt_e (he16 12 (by decide) (by decide)) (he16 17 (by decide) (by decide)) (he16 18 (by decide) (by decide)) (he16 19 (by decide) (by decide)) he4)), (by have m_s1 := he5.1; have m_s13 : ra_g s13 179 17 = ra_g s1 179 17 := (he16 17 (by decide) (by decide)); have k_s13 : ra_g s13 179 20 = ra_g s1 179 20 := (he16 20 (by decide) (by decide)); have m_s48 : ra_g s48 179 17 = ra_g s13 179 17 := (he51 17 (by decide) (by decide)); have k_s48 : ra_g s48 179 20 = ra_g s13 179 20 := (he51 20 (by decide) (by decide)); omega)⟩⟩
  · refine ra_iconst rfl ?_
    exact ra_ireturn rfl (ra_okB (Or.inl rfl)) ⟨⟨_, (Or.inl rfl), (fun q => absurd q (by decide)), rfl⟩, ⟨hF17, hk19, hk20, hk21, hk22, (fun a h15 h16 h17 h18 h19 h20 h21 => ((he16 a h15 h16).trans (he3 a h17 h18 h19 h20))), (LD_k (hf15 180 (by omega)) (LD_k (hf2 180 (by omega)) hld)), (pt_e (he16 12 (by decide) (by decide)) (he16 17 (by decide) (by decide)) (he16 18 (by decide) (by decide)) (he16 19 (by decide) (by decide)) he4), (by have m_s1 := he5.1; have m_s13 : ra_g s13 179 17 = ra_g s1 179 17 := (he16 17 (by decide) (by decide)); have k_s13 : ra_g s13 179 20 = ra_g s1 179 20 := (he16 20 (by decide) (by decide)); omega)⟩⟩
end RB
