/-! T4: what the reference's methods that read a text do (printed by wip/gen/r4.py) -/
section
variable {B : Nat → Int} {bn ps ta ti : Nat} {r : Nat → Int}
theorem l4_209_3 {n : Nat} {f : Nat → Int32} {d : Nat} {x0 : Int} {x1 : Int} {x2 : Int} {x3 : Int} {σ : ra_V} (hx0 : ra_in x0) (hx1 : ra_in x1) (hx2 : ra_in x2) (hx3 : ra_in x3) (hx : ∃ q, 0 ≤ q ∧ q < 8 ∧ wq σ q 0 ≠ 1) (hn : 0 ≤ x0 ∧ 1 ≤ x1 ∧ x0 + x1 ≤ 600) (h5 : 0 ≤ ra_g σ 180 5 ∧ ra_g σ 180 5 ≤ 8) : ∀ (nn : Nat) (v5 : Int) (hv5_0 : 0 ≤ v5) (hv5_1 : ∀ r, 0 ≤ r → r < v5 → wq σ r 0 = 1) (hm : ((8 - v5 : Int)).toNat < nn), ra_P (g_Gs n f) g_sh 0 (d + 3) g_m_X8_makes 3 [some (.index (179)), some (ra_I x0), some (ra_I x1), some (ra_I x2), some (ra_I x3), some (ra_I v5)] [] σ (fun r9 s => (∃ z, ra_in z ∧ (MK2 σ s z x0 x1 x3 ∧ wq s z 5 = 0) ∧ r9 = .inl (some (ra_I z))) ∧ Fr (180) (181) σ s) := by
  intro nn
  induction nn with
  | zero => intro v5 hv5_0 hv5_1 hm; exact absurd hm (Nat.not_lt_zero _)
  | succ nn ih =>
    intro v5 hv5_0 hv5_1 hm
    have hv8 : v5 < 8 := free_lt hx hv5_1
    refine ra_load rfl rfl rfl rfl ?_
    refine ra_load rfl rfl rfl rfl ?_
    refine ra_iconst rfl ?_
    refine ra_cTp (sp_199 (by first | omega | (unfold ra_in at *; omega)) (by first | omega | (unfold ra_in at *; omega)) (by first | assumption | rfl | omega)) rfl (ct_199 rfl lk_8_67 (Or.inl rfl) sh_179 (Nat.le_of_ble_eq_true rfl)) ?_
    have hr2 : ra_in (wq σ v5 (0)) := (ra_in_wq _ _ _)
    refine ra_iconst rfl ?_
    refine ra_icne rfl rfl hr2 (by first | omega | (unfold ra_in at *; omega)) (fun h3 => ?_) (fun h3 => ?_)
    · refine ra_load rfl rfl rfl rfl ?_
      refine ra_load rfl rfl rfl rfl ?_
      refine ra_iconst rfl ?_
      refine ra_iconst rfl ?_
      refine ra_cV (sp_200 (by first | omega | (unfold ra_in at *; omega)) (by first | omega | (unfold ra_in at *; omega)) (by first | omega | (unfold ra_in at *; omega)) (by first | assumption | rfl | omega)) rfl (ct_200 rfl lk_8_78 (Or.inl rfl) sh_179 (Nat.le_of_ble_eq_true rfl)) (fun s4 hs4 => ?_)
      obtain ⟨hf5, he6, he7⟩ := hs4
      have hF8 := Fr_tr (lo := 180) (hi := 181) Fr_rf hf5 (by omega)
      refine ra_load rfl rfl rfl rfl ?_
      refine ra_load rfl rfl rfl rfl ?_
      refine ra_iconst rfl ?_
      refine ra_load rfl rfl rfl rfl ?_
      refine ra_cV (sp_200 (by first | omega | (unfold ra_in at *; omega)) (by first | omega | (unfold ra_in at *; omega)) hx0 (by first | assumption | rfl | omega)) rfl (ct_200 rfl lk_8_78 (Or.inl rfl) sh_179 (Nat.le_of_ble_eq_true rfl)) (fun s9 hs9 => ?_)
      obtain ⟨hf10, he11, he12⟩ := hs9
      have hF13 := Fr_tr (lo := 180) (hi := 181) hF8 hf10 (by omega)
      refine ra_load rfl rfl rfl rfl ?_
      refine ra_load rfl rfl rfl rfl ?_
      refine ra_iconst rfl ?_
      refine ra_load rfl rfl rfl rfl ?_
      refine ra_cV (sp_200 (by first | omega | (unfold ra_in at *; omega)) (by first | omega | (unfold ra_in at *; omega)) hx1 (by first | assumption | rfl | omega)) rfl (ct_200 rfl lk_8_78 (Or.inl rfl) sh_179 (Nat.le_of_ble_eq_true rfl)) (fun s14 hs14 => ?_)
      obtain ⟨hf15, he16, he17⟩ := hs14
      have hF18 := Fr_tr (lo := 180) (hi := 181) hF13 hf15 (by omega)
      refine ra_load rfl rfl rfl rfl ?_
      refine ra_load rfl rfl rfl rfl ?_
      refine ra_iconst rfl ?_
      refine ra_load rfl rfl rfl rfl ?_
      refine ra_cV (sp_200 (by first | omega | (unfold ra_in at *; omega)) (by first | omega | (unfold ra_in at *; omega)) hx3 (by first | assumption | rfl | omega)) rfl (ct_200 rfl lk_8_78 (Or.inl rfl) sh_179 (Nat.le_of_ble_eq_true rfl)) (fun s19 hs19 => ?_)
      obtain ⟨hf20, he21, he22⟩ := hs19
      have hF23 := Fr_tr (lo := 180) (hi := 181) hF18 hf20 (by omega)
      refine ra_load rfl rfl rfl rfl ?_
      refine ra_load rfl rfl rfl rfl ?_
      refine ra_iconst rfl ?_
      refine ra_load rfl rfl rfl rfl ?_
      refine ra_cV (sp_200 (by first | omega | (unfold ra_in at *; omega)) (by first | omega | (unfold ra_in at *; omega)) hx2 (by first | assumption | rfl | omega)) rfl (ct_200 rfl lk_8_78 (Or.inl rfl) sh_179 (Nat.le_of_ble_eq_true rfl)) (fun s24 hs24 => ?_)
      obtain ⟨hf25, he26, he27⟩ := hs24
      have hF28 := Fr_tr (lo := 180) (hi := 181) hF23 hf25 (by omega)
      refine ra_load rfl rfl rfl rfl ?_
      refine ra_load rfl rfl rfl rfl ?_
      refine ra_iconst rfl ?_
      refine ra_iconst rfl ?_
      refine ra_cV (sp_200 (by first | omega | (unfold ra_in at *; omega)) (by first | omega | (unfold ra_in at *; omega)) (by first | omega | (unfold ra_in at *; omega)) (by first | assumption | rfl | omega)) rfl (ct_200 rfl lk_8_78 (Or.inl rfl) sh_179 (Nat.le_of_ble_eq_true rfl)) (fun s29 hs29 => ?_)
      obtain ⟨hf30, he31, he32⟩ := hs29
      have hF33 := Fr_tr (lo := 180) (hi := 181) hF28 hf30 (by omega)
      refine ra_load rfl rfl rfl rfl ?_
      refine ra_load rfl rfl rfl rfl ?_
      refine ra_bipush rfl (by decide) ?_
      refine ra_load rfl rfl rfl rfl ?_
      refine ra_getR rfl lk_8_7 (Nat.zero_le _) sh_179 rfl ?_
      refine ra_iconst rfl ?_
      refine ra_ialoadJ (j := 5) rfl sh_180 rfl (by decide) rfl (by decide) ?_
      have hr34 : ra_in (ra_g s29 (180) 5) := (ra_in_g _ _ _)
      refine ra_cV (sp_200 (by first | omega | (unfold ra_in at *; omega)) (by first | omega | (unfold ra_in at *; omega)) hr34 (by first | assumption | rfl | omega)) rfl (ct_200 rfl lk_8_78 (Or.inl rfl) sh_179 (Nat.le_of_ble_eq_true rfl)) (fun s35 hs35 => ?_)
      obtain ⟨hf36, he37, he38⟩ := hs35
      have hF39 := Fr_tr (lo := 180) (hi := 181) hF33 hf36 (by omega)
      refine ra_load rfl rfl rfl rfl ?_
      refine ra_load rfl rfl rfl rfl ?_
      refine ra_bipush rfl (by decide) ?_
      refine ra_iconst rfl ?_
      refine ra_cV (sp_200 (by first | omega | (unfold ra_in at *; omega)) (by first | omega | (unfold ra_in at *; omega)) (by first | omega | (unfold ra_in at *; omega)) (by first | assumption | rfl | omega)) rfl (ct_200 rfl lk_8_78 (Or.inl rfl) sh_179 (Nat.le_of_ble_eq_true rfl)) (fun s40 hs40 => ?_)
      obtain ⟨hf41, he42, he43⟩ := hs40
      have hF44 := Fr_tr (lo := 180) (hi := 181) hF39 hf41 (by omega)
      refine ra_load rfl rfl rfl rfl ?_
      have e5 : ra_g s40 180 5 = ra_g σ 180 5 := ((he43 5 (by omega)).trans ((he38 5 (by omega)).trans ((he32 5 (by omega)).trans ((he27 5 (by omega)).trans ((he22 5 (by omega)).trans ((he17 5 (by omega)).trans ((he12 5 (by omega)).trans (he7 5 (by omega)))))))))
      refine ra_getR rfl lk_8_7 (Nat.zero_le _) sh_179 rfl ?_
      refine ra_iconst rfl ?_
      refine ra_dup2 rfl rfl rfl ?_
      refine ra_ialoadJ (j := 5) rfl sh_180 rfl (by decide) rfl (by decide) ?_
      have hr45 : ra_in (ra_g s40 (180) 5) := (ra_in_g _ _ _)
      refine ra_iconst rfl ?_
      refine ra_iadd rfl ?_
      refine ra_iastoreJ (j := 5) rfl sh_180 rfl (by decide) rfl (by decide) ?_
      refine ra_newR (by first | omega | (unfold ra_in at *; omega)) (fun s46 hs46 hs46v hs46o => ?_)
      have hF47 := Fr_tr (lo := 180) (hi := 181) hF44 hs46 (by omega)
      refine ra_load rfl rfl rfl rfl ?_
      refine ra_load rfl rfl rfl rfl ?_
      refine ra_iconst rfl ?_
      refine ra_cV (sp_208 (by first | omega | (unfold ra_in at *; omega)) (by first | omega | (unfold ra_in at *; omega)) (by first | assumption | rfl | omega) (by have := mk_chain (a := x0) (m := x1) (mn := x3) ⟨by omega, by omega, by omega⟩ he6 he7 he11 he12 he16 he17 he21 he22 he27 he32 he38 he43 hs46o SC_rf; obtain ⟨-, -, t1, t2, -⟩ := this; omega) (by first | assumption | rfl | omega)) rfl (ct_208 rfl lk_8_82 (Or.inl rfl) sh_179 (Nat.le_of_ble_eq_true rfl)) (fun s48 hs48 => ?_)
      obtain ⟨hf49, he50⟩ := hs48
      have hF51 := Fr_tr (lo := 180) (hi := 181) hF47 hf49 (by omega)
      refine ra_load rfl rfl rfl rfl ?_
      exact ra_ireturn rfl rfl ⟨⟨_, (by first | omega | (unfold ra_in at *; omega)), ⟨⟨(mk_chain ⟨by omega, by omega, by omega⟩ he6 he7 he11 he12 he16 he17 he21 he22 he27 he32 he38 he43 hs46o he50), ((he50 5 (by decide)).trans (by have t := hs46v; omega)), hv5_1⟩, ((he50 _ (by omega)).trans ((hs46o _ (by omega)).trans ((he43 _ (by omega)).trans ((he38 _ (by omega)).trans he31))))⟩, rfl⟩, hF51⟩
    · refine ra_iinc (L' := [_, _, _, _, _, _]) rfl rfl (Nat.le_of_ble_eq_true rfl) rfl ?_
      refine ra_goto rfl rfl ?_
      exact ra_weak (by repeat' constructor) (ih (v5 + 1) (by first | omega | (unfold ra_in at *; omega)) (fun r a b => if e : r = v5 then (by rw [e]; omega) else hv5_1 r a (by omega)) (by first | omega | (unfold ra_in at *; omega)))
theorem s4_209 {n : Nat} {f : Nat → Int32} {d : Nat} {x0 : Int} {x1 : Int} {x2 : Int} {x3 : Int} {σ : ra_V} (hx0 : ra_in x0) (hx1 : ra_in x1) (hx2 : ra_in x2) (hx3 : ra_in x3) (hx : ∃ q, 0 ≤ q ∧ q < 8 ∧ wq σ q 0 ≠ 1) (hn : 0 ≤ x0 ∧ 1 ≤ x1 ∧ x0 + x1 ≤ 600) (h5 : 0 ≤ ra_g σ 180 5 ∧ ra_g σ 180 5 ≤ 8) : ra_C (g_Gs n f) g_sh 0 (d + 4) 209 [.index (179), ra_I x0, ra_I x1, ra_I x2, ra_I x3] σ (fun r9 s => (∃ z, ra_in z ∧ (MK2 σ s z x0 x1 x3 ∧ wq s z 5 = 0) ∧ r9 = .inl (some (ra_I z))) ∧ Fr (180) (181) σ s) := by
  refine ra_enter (nn := 1) mt_209 rfl (Nat.le_of_ble_eq_true rfl) rfl (fun h => absurd h (by decide +kernel)) ?_
  refine ra_iconst rfl ?_
  refine ra_store (L' := [_, _, _, _, _, _]) rfl rfl rfl (Nat.le_of_ble_eq_true rfl) rfl ?_
  exact ra_weak (by repeat' constructor) (l4_209_3 hx0 hx1 hx2 hx3 hx hn h5 _ (0) (by first | omega | (unfold ra_in at *; omega)) (fun r a b => by omega) (Nat.lt_succ_self _))
theorem l4_256_183 {n : Nat} {f : Nat → Int32} {d : Nat}  {σ : ra_V} (hpt : 0 ≤ ra_g σ 179 18 ∧ ra_g σ 179 18 ≤ ra_g σ 179 17 ∧ ra_g σ 179 17 ≤ ra_g σ 179 12 ∧ ra_g σ 179 12 ≤ 500 ∧ 0 ≤ ra_g σ 179 19 ∧ ra_g σ 179 19 ≤ 999) (hld : LD σ) (hB : x4TR σ B bn) (hN : x4RTK B bn σ ta) (hR : x4RR r σ) : ∀ (s : ra_V) (hF : Fr (179) (189) σ s) (hk0 : s (180) = σ (180)) (hk1 : s (181) = σ (181)) (hk2 : s (182) = σ (182)) (hk3 : s (183) = σ (183)) (hk4 : s (184) = σ (184)) (hov : ∀ a, a ≠ 15 → a ≠ 16 → a ≠ 17 → a ≠ 18 → a ≠ 19 → a ≠ 20 → a ≠ 21 → ra_g s 179 a = ra_g σ 179 a) (hps : 0 ≤ ra_g s 179 18 ∧ ra_g s 179 18 ≤ ra_g s 179 17 ∧ ra_g s 179 17 ≤ ra_g s 179 12 ∧ ra_g s 179 12 ≤ 500 ∧ 0 ≤ ra_g s 179 19 ∧ ra_g s 179 19 ≤ 999) (hmo : ra_g σ 179 17 ≤ ra_g s 179 17) (h8 : ra_g σ 180 5 ≠ 8) (hua : US σ (ra_g s 188 0) (ra_g s 188 1)) (hta : ¬ TK σ (ra_g s 188 0) (ra_g s 188 1) (-1)) (h3 : 1 ≤ ra_g s 188 3 ∧ ra_g s 188 3 ≤ ra_g s 188 1) (hadv : ra_g s 179 20 = 3 → ra_g σ 179 17 < ra_g s 179 17) (hRs : x4RR r s) (hKs : x4RTK B bn s (tx_a B bn (x4tx_n B bn (x4tx_n B bn (x4tx_n B bn (x4tx_n B bn (tx_e B bn ta))))))) (hBs : x4TR s B bn) (k7 : s (187) = σ (187)) (hPA : x4PA B bn r ta (ra_g s 188 0)) (hPB : x4PB B bn r ta (ra_g s 188 0) (ra_g s 188 1)) (hPC : tx_rd B bn (x4tx_n B bn (x4tx_n B bn (tx_e B bn ta))) 0 9 = .inr (ra_g s 188 2, x4tx_n B bn (x4tx_n B bn (x4tx_n B bn (tx_e B bn ta))))) (hPD : tx_rd B bn (x4tx_n B bn (x4tx_n B bn (x4tx_n B bn (tx_e B bn ta)))) 1 (ra_g s 188 1) = .inr (ra_g s 188 3, x4tx_n B bn (x4tx_n B bn (x4tx_n B bn (x4tx_n B bn (tx_e B bn ta)))))) (hKu : tx_a B bn (x4tx_n B bn (x4tx_n B bn (x4tx_n B bn (tx_e B bn ta)))) ≤ bn ∧ tx_a B bn (x4tx_n B bn (x4tx_n B bn (x4tx_n B bn (tx_e B bn ta)))) ≤ x4tx_n B bn (x4tx_n B bn (x4tx_n B bn (x4tx_n B bn (tx_e B bn ta)))) ∧ x4tx_n B bn (x4tx_n B bn (x4tx_n B bn (x4tx_n B bn (tx_e B bn ta)))) ≤ bn), ra_P (g_Gs n f) g_sh 0 (d + 4) g_m_X8_readPart 183 [some (.index (179)), none] [] s (fun r9 s => (∃ z : Int, (z = 0 ∨ z = 1) ∧ ((z = 1 → ra_g s 179 20 = 3 → ra_g σ 179 17 < ra_g s 179 17) ∧ x4ROC B bn s z (tx_part B bn r ta)) ∧ r9 = .inl (some (ra_I z))) ∧ Fr (179) (189) σ s ∧ s (181) = σ (181) ∧ s (182) = σ (182) ∧ s (183) = σ (183) ∧ s (184) = σ (184) ∧ (∀ a, a ≠ 15 → a ≠ 16 → a ≠ 17 → a ≠ 18 → a ≠ 19 → a ≠ 20 → a ≠ 21 → ra_g s 179 a = ra_g σ 179 a) ∧ LD s ∧ (0 ≤ ra_g s 179 18 ∧ ra_g s 179 18 ≤ ra_g s 179 17 ∧ ra_g s 179 17 ≤ ra_g s 179 12 ∧ ra_g s 179 12 ≤ 500 ∧ 0 ≤ ra_g s 179 19 ∧ ra_g s 179 19 ≤ 999) ∧ ra_g σ 179 17 ≤ ra_g s 179 17 ∧ s (187) = σ (187)) := by
    intro s hF hk0 hk1 hk2 hk3 hk4 hov hps hmo h8 hua hta h3 hadv hRs hKs hBs k7 hPA hPB hPC hPD hKu
    have hw0 := WF_a hld.1
    unfold WFa at hw0
    have hl5 := hld.2.2.1
    have hus := US_k hk0.symm hua
    have hus2 := hus
    unfold US at hus2
    have e5 : ra_g s 180 5 = ra_g σ 180 5 := ra_gk hk0
    have e0 : ra_g s 180 0 = ra_g σ 180 0 := ra_gk hk0
    have e1 : ra_g s 180 1 = ra_g σ 180 1 := ra_gk hk0
    have e2 : ra_g s 180 2 = ra_g σ 180 2 := ra_gk hk0
    have hR0 := hR
    obtain ⟨⟨q0, q1, q2, q3, q4, q5⟩, q21, -, ⟨q15, q16⟩, qp⟩ := hR0
    have hN0 := hN
    obtain ⟨n1, n2, n3, -, n5, n6, n7⟩ := hN0
    have hRs0 := hRs
    obtain ⟨⟨r0, r1, r2, r3, r4, r5⟩, r21, -, ⟨r15, r16⟩, -⟩ := hRs0
    refine ra_load rfl rfl rfl rfl ?_
    refine ra_load rfl rfl rfl rfl ?_
    refine ra_getR rfl lk_8_38 (Nat.zero_le _) sh_179 rfl ?_
    refine ra_iconst rfl ?_
    refine ra_ialoadJ (j := 0) rfl sh_188 rfl (by decide) rfl (by decide) ?_
    have hr149 : ra_in (ra_g s (188) 0) := (ra_in_g _ _ _)
    refine ra_load rfl rfl rfl rfl ?_
    refine ra_getR rfl lk_8_38 (Nat.zero_le _) sh_179 rfl ?_
    refine ra_iconst rfl ?_
    refine ra_ialoadJ (j := 1) rfl sh_188 rfl (by decide) rfl (by decide) ?_
    have hr150 : ra_in (ra_g s (188) 1) := (ra_in_g _ _ _)
    refine ra_load rfl rfl rfl rfl ?_
    refine ra_getR rfl lk_8_38 (Nat.zero_le _) sh_179 rfl ?_
    refine ra_iconst rfl ?_
    refine ra_ialoadJ (j := 2) rfl sh_188 rfl (by decide) rfl (by decide) ?_
    have hr151 : ra_in (ra_g s (188) 2) := (ra_in_g _ _ _)
    refine ra_load rfl rfl rfl rfl ?_
    refine ra_getR rfl lk_8_38 (Nat.zero_le _) sh_179 rfl ?_
    refine ra_iconst rfl ?_
    refine ra_ialoadJ (j := 3) rfl sh_188 rfl (by decide) rfl (by decide) ?_
    have hr152 : ra_in (ra_g s (188) 3) := (ra_in_g _ _ _)
    refine ra_cIPs (s4_209 hr149 hr150 hr151 hr152 (LD_x (LD_k hk0 hld) (by omega)) (by omega) (by omega)) rfl (ct_209 rfl lk_8_250 (Or.inl rfl) sh_179 (Nat.le_of_ble_eq_true rfl)) (fun z154 s153 hz154 hz154p hs153 => ?_)
    have hF155 := Fr_tr (lo := 179) (hi := 189) hF hs153 (by omega)
    have hk156 : s153 (181) = σ (181) := (hs153 (181) (by omega)).trans hk1
    have hk157 : s153 (182) = σ (182) := (hs153 (182) (by omega)).trans hk2
    have hk158 : s153 (183) = σ (183) := (hs153 (183) (by omega)).trans hk3
    have hk159 : s153 (184) = σ (184) := (hs153 (184) (by omega)).trans hk4
    refine ra_store (L' := [_, _]) rfl rfl rfl (Nat.le_of_ble_eq_true rfl) rfl ?_
    refine ra_load rfl rfl rfl rfl ?_
    refine ra_iflt rfl rfl hz154 (fun h160 => ?_) (fun h160 => ?_)
    · refine ra_iconst rfl ?_
      exact ra_ireturn rfl (ra_okB (Or.inl rfl)) ⟨⟨_, (Or.inl rfl), ⟨(fun q => absurd q (by decide)), (by exfalso; have q9 := hz154p.1.1.1.1; omega)⟩, rfl⟩, ⟨hF155, hk156, hk157, hk158, hk159, (fun a h15 h16 h17 h18 h19 h20 h21 => ((ra_gk (hs153 179 (by omega))).trans (hov a h15 h16 h17 h18 h19 h20 h21))), (LD_new (LD_k hk0 hld) hz154p.1 (by omega) hus (fun q => hta (TK_k hk0 q)) ⟨by omega, by omega⟩), (pt_e (ra_gk (hs153 179 (by omega))) (ra_gk (hs153 179 (by omega))) (ra_gk (hs153 179 (by omega))) (ra_gk (hs153 179 (by omega))) hps), (by have m_s153 : ra_g s153 179 17 = ra_g s 179 17 := (ra_gk (hs153 179 (by omega))); have k_s153 : ra_g s153 179 20 = ra_g s 179 20 := (ra_gk (hs153 179 (by omega))); omega), ((hs153 (187) (by omega)).trans k7)⟩⟩
    · refine ra_iconst rfl ?_
      refine ra_goto rfl rfl ?_
      exact ra_ireturn rfl (ra_okB (Or.inr rfl)) ⟨⟨_, (Or.inr rfl), ⟨(fun _ q => by have m_s153 : ra_g s153 179 17 = ra_g s 179 17 := (ra_gk (hs153 179 (by omega))); have k_s153 : ra_g s153 179 20 = ra_g s 179 20 := (ra_gk (hs153 179 (by omega))); have a := hadv (by omega); omega), (x4ro_y rfl (x4pd_y (by omega) hPA hPB hPC hPD) (x4RR_mk2 hRs (LD_k hk0 hld) (by omega) hz154p.1 hz154p.2 ⟨(ra_gk (hs153 179 (by omega))), (ra_gk (hs153 179 (by omega))), (ra_gk (hs153 179 (by omega)))⟩) (x4RTK_k (ra_gk (hs153 179 (by omega))) (ra_gk (hs153 179 (by omega))) (ra_gk (hs153 179 (by omega))) (ra_gk (hs153 179 (by omega))) hKs) hKu.2.2)⟩, rfl⟩, ⟨hF155, hk156, hk157, hk158, hk159, (fun a h15 h16 h17 h18 h19 h20 h21 => ((ra_gk (hs153 179 (by omega))).trans (hov a h15 h16 h17 h18 h19 h20 h21))), (LD_new (LD_k hk0 hld) hz154p.1 (by omega) hus (fun q => hta (TK_k hk0 q)) ⟨by omega, by omega⟩), (pt_e (ra_gk (hs153 179 (by omega))) (ra_gk (hs153 179 (by omega))) (ra_gk (hs153 179 (by omega))) (ra_gk (hs153 179 (by omega))) hps), (by have m_s153 : ra_g s153 179 17 = ra_g s 179 17 := (ra_gk (hs153 179 (by omega))); have k_s153 : ra_g s153 179 20 = ra_g s 179 20 := (ra_gk (hs153 179 (by omega))); omega), ((hs153 (187) (by omega)).trans k7)⟩⟩
theorem l4_256_166 {n : Nat} {f : Nat → Int32} {d : Nat}  {σ : ra_V} (hpt : 0 ≤ ra_g σ 179 18 ∧ ra_g σ 179 18 ≤ ra_g σ 179 17 ∧ ra_g σ 179 17 ≤ ra_g σ 179 12 ∧ ra_g σ 179 12 ≤ 500 ∧ 0 ≤ ra_g σ 179 19 ∧ ra_g σ 179 19 ≤ 999) (hld : LD σ) (hB : x4TR σ B bn) (hN : x4RTK B bn σ ta) (hR : x4RR r σ) : ∀ (s : ra_V) (hF : Fr (179) (189) σ s) (hk0 : s (180) = σ (180)) (hk1 : s (181) = σ (181)) (hk2 : s (182) = σ (182)) (hk3 : s (183) = σ (183)) (hk4 : s (184) = σ (184)) (hov : ∀ a, a ≠ 15 → a ≠ 16 → a ≠ 17 → a ≠ 18 → a ≠ 19 → a ≠ 20 → a ≠ 21 → ra_g s 179 a = ra_g σ 179 a) (hps : 0 ≤ ra_g s 179 18 ∧ ra_g s 179 18 ≤ ra_g s 179 17 ∧ ra_g s 179 17 ≤ ra_g s 179 12 ∧ ra_g s 179 12 ≤ 500 ∧ 0 ≤ ra_g s 179 19 ∧ ra_g s 179 19 ≤ 999) (hmo : ra_g σ 179 17 ≤ ra_g s 179 17) (h8 : ra_g σ 180 5 ≠ 8) (hua : US σ (ra_g s 188 0) (ra_g s 188 1)) (hta : ¬ TK σ (ra_g s 188 0) (ra_g s 188 1) (-1)) (h1 : 1 ≤ ra_g s 188 1 ∧ ra_g s 188 1 ≤ 999) (hRs : x4RR r s) (hKs : x4RTK B bn s (tx_a B bn (x4tx_n B bn (x4tx_n B bn (x4tx_n B bn (tx_e B bn ta)))))) (hBs : x4TR s B bn) (k7 : s (187) = σ (187)) (hPA : x4PA B bn r ta (ra_g s 188 0)) (hPB : x4PB B bn r ta (ra_g s 188 0) (ra_g s 188 1)) (hPC : tx_rd B bn (x4tx_n B bn (x4tx_n B bn (tx_e B bn ta))) 0 9 = .inr (ra_g s 188 2, x4tx_n B bn (x4tx_n B bn (x4tx_n B bn (tx_e B bn ta))))), ra_P (g_Gs n f) g_sh 0 (d + 4) g_m_X8_readPart 166 [some (.index (179)), none] [] s (fun r9 s => (∃ z : Int, (z = 0 ∨ z = 1) ∧ ((z = 1 → ra_g s 179 20 = 3 → ra_g σ 179 17 < ra_g s 179 17) ∧ x4ROC B bn s z (tx_part B bn r ta)) ∧ r9 = .inl (some (ra_I z))) ∧ Fr (179) (189) σ s ∧ s (181) = σ (181) ∧ s (182) = σ (182) ∧ s (183) = σ (183) ∧ s (184) = σ (184) ∧ (∀ a, a ≠ 15 → a ≠ 16 → a ≠ 17 → a ≠ 18 → a ≠ 19 → a ≠ 20 → a ≠ 21 → ra_g s 179 a = ra_g σ 179 a) ∧ LD s ∧ (0 ≤ ra_g s 179 18 ∧ ra_g s 179 18 ≤ ra_g s 179 17 ∧ ra_g s 179 17 ≤ ra_g s 179 12 ∧ ra_g s 179 12 ≤ 500 ∧ 0 ≤ ra_g s 179 19 ∧ ra_g s 179 19 ≤ 999) ∧ ra_g σ 179 17 ≤ ra_g s 179 17 ∧ s (187) = σ (187)) := by
    intro s hF hk0 hk1 hk2 hk3 hk4 hov hps hmo h8 hua hta h1 hRs hKs hBs k7 hPA hPB hPC
    have hw0 := WF_a hld.1
    unfold WFa at hw0
    have hl5 := hld.2.2.1
    have hR0 := hR
    obtain ⟨⟨q0, q1, q2, q3, q4, q5⟩, q21, -, ⟨q15, q16⟩, qp⟩ := hR0
    have hN0 := hN
    obtain ⟨n1, n2, n3, -, n5, n6, n7⟩ := hN0
    have hRs0 := hRs
    obtain ⟨⟨r0, r1, r2, r3, r4, r5⟩, r21, -, ⟨r15, r16⟩, -⟩ := hRs0
    refine ra_load rfl rfl rfl rfl ?_
    refine ra_iconst rfl ?_
    refine ra_iconst rfl ?_
    refine ra_load rfl rfl rfl rfl ?_
    refine ra_getR rfl lk_8_38 (Nat.zero_le _) sh_179 rfl ?_
    refine ra_iconst rfl ?_
    refine ra_ialoadJ (j := 1) rfl sh_188 rfl (by decide) rfl (by decide) ?_
    have hr128 : ra_in (ra_g s (188) 1) := (ra_in_g _ _ _)
    refine ra_cQPs (s4_254 (by first | omega | (unfold ra_in at *; omega)) (by first | omega | (unfold ra_in at *; omega)) hr128 hps (by first | assumption | rfl | omega) hBs hKs (by omega)) rfl (ct_254 rfl lk_8_246 (Or.inl rfl) sh_179 (Nat.le_of_ble_eq_true rfl)) (fun z130 s129 hz130 hz130p hs129 => ?_)
    have hz130o := hz130p.1
    have hz130q := hz130p.2
    obtain ⟨hf131, hc132, hc133, hc134, hc135, hc136, he137, he138, he139, he140, he141⟩ := hs129
    have hF142 := Fr_tr (lo := 179) (hi := 189) hF hf131 (by omega)
    have hk143 : s129 (180) = σ (180) := hc132.trans hk0
    have hk144 : s129 (181) = σ (181) := hc133.trans hk1
    have hk145 : s129 (182) = σ (182) := hc134.trans hk2
    have hk146 : s129 (183) = σ (183) := hc135.trans hk3
    have hk147 : s129 (184) = σ (184) := hc136.trans hk4
    refine ra_ifne rfl rfl (ra_in01 hz130) (fun h148 => ?_) (fun h148 => ?_)
    · have to9 := hz130o (by omega)
      rw [toN3] at to9
      rw [toN3] at hz130q
      obtain ⟨-, ht1, hKt, hlt, hut, he1, he1b⟩ := hz130q.resolve_right (fun q => by omega)
      have hR2 : x4RR r s129 := (x4RR_k hc132 ⟨by omega, by omega, (he137 21 (by decide) (by decide) (by decide) (by decide) (by decide) (by decide))⟩ hRs)
      exact ra_weak (by repeat' constructor) (l4_256_183 hpt hld hB hN hR s129 hF142 hk143 hk144 hk145 hk146 hk147 (fun a h15 h16 h17 h18 h19 h20 h21 => ((he137 a h15 h16 h17 h18 h19 h20).trans (hov a h15 h16 h17 h18 h19 h20 h21))) he139 (by have m_s129 := he140; omega) (by first | assumption | omega) (by rw [show ra_g s129 188 0 = ra_g s 188 0 from (he138 0 (by decide)), show ra_g s129 188 1 = ra_g s 188 1 from (he138 1 (by decide))]; exact hua) (by rw [show ra_g s129 188 0 = ra_g s 188 0 from (he138 0 (by decide)), show ra_g s129 188 1 = ra_g s 188 1 from (he138 1 (by decide))]; exact hta) (by have a := hz130o (by omega); rw [toN3] at a; have e := (he138 1 (by decide) : ra_g s129 188 1 = ra_g s 188 1); omega) (fun q => by have m_s129 := he140; have a := hz130o (by omega); omega) hR2 hKt (x4TR_k (he137 12 (by decide) (by decide) (by decide) (by decide) (by decide) (by decide)) he141 hBs) (he141.trans k7) (by rw [show ra_g s129 188 0 = ra_g s 188 0 from (he138 0 (by decide))]; exact hPA) (by rw [show ra_g s129 188 0 = ra_g s 188 0 from (he138 0 (by decide)), show ra_g s129 188 1 = ra_g s 188 1 from (he138 1 (by decide))]; exact hPB) (by rw [show ra_g s129 188 2 = ra_g s 188 2 from (he138 2 (by decide))]; exact hPC) (by rw [show ra_g s129 188 1 = ra_g s 188 1 from (he138 1 (by decide))]; exact ht1) hKs.2.2.2.2)
    · refine ra_iconst rfl ?_
      exact ra_ireturn rfl (ra_okB (Or.inl rfl)) ⟨⟨_, (Or.inl rfl), ⟨(fun q => absurd q (by decide)), (x4ro_t hz130q (by omega) rfl (fun x hx => x4pd_f (by omega) hPA hPB hPC hx))⟩, rfl⟩, ⟨hF142, hk144, hk145, hk146, hk147, (fun a h15 h16 h17 h18 h19 h20 h21 => ((he137 a h15 h16 h17 h18 h19 h20).trans (hov a h15 h16 h17 h18 h19 h20 h21))), (LD_k hk143 hld), he139, (by have m_s129 := he140; omega), (he141.trans k7)⟩⟩
theorem l4_256_155 {n : Nat} {f : Nat → Int32} {d : Nat}  {σ : ra_V} (hpt : 0 ≤ ra_g σ 179 18 ∧ ra_g σ 179 18 ≤ ra_g σ 179 17 ∧ ra_g σ 179 17 ≤ ra_g σ 179 12 ∧ ra_g σ 179 12 ≤ 500 ∧ 0 ≤ ra_g σ 179 19 ∧ ra_g σ 179 19 ≤ 999) (hld : LD σ) (hB : x4TR σ B bn) (hN : x4RTK B bn σ ta) (hR : x4RR r σ) : ∀ (s : ra_V) (hF : Fr (179) (189) σ s) (hk0 : s (180) = σ (180)) (hk1 : s (181) = σ (181)) (hk2 : s (182) = σ (182)) (hk3 : s (183) = σ (183)) (hk4 : s (184) = σ (184)) (hov : ∀ a, a ≠ 15 → a ≠ 16 → a ≠ 17 → a ≠ 18 → a ≠ 19 → a ≠ 20 → a ≠ 21 → ra_g s 179 a = ra_g σ 179 a) (hps : 0 ≤ ra_g s 179 18 ∧ ra_g s 179 18 ≤ ra_g s 179 17 ∧ ra_g s 179 17 ≤ ra_g s 179 12 ∧ ra_g s 179 12 ≤ 500 ∧ 0 ≤ ra_g s 179 19 ∧ ra_g s 179 19 ≤ 999) (hmo : ra_g σ 179 17 ≤ ra_g s 179 17) (h8 : ra_g σ 180 5 ≠ 8) (hua : US σ (ra_g s 188 0) (ra_g s 188 1)) (hta : ¬ TK σ (ra_g s 188 0) (ra_g s 188 1) (-1)) (h1 : 1 ≤ ra_g s 188 1 ∧ ra_g s 188 1 ≤ 999) (hRs : x4RR r s) (hKs : x4RTK B bn s (tx_a B bn (x4tx_n B bn (x4tx_n B bn (tx_e B bn ta))))) (hBs : x4TR s B bn) (k7 : s (187) = σ (187)) (hPA : x4PA B bn r ta (ra_g s 188 0)) (hPB : x4PB B bn r ta (ra_g s 188 0) (ra_g s 188 1)), ra_P (g_Gs n f) g_sh 0 (d + 4) g_m_X8_readPart 155 [some (.index (179)), none] [] s (fun r9 s => (∃ z : Int, (z = 0 ∨ z = 1) ∧ ((z = 1 → ra_g s 179 20 = 3 → ra_g σ 179 17 < ra_g s 179 17) ∧ x4ROC B bn s z (tx_part B bn r ta)) ∧ r9 = .inl (some (ra_I z))) ∧ Fr (179) (189) σ s ∧ s (181) = σ (181) ∧ s (182) = σ (182) ∧ s (183) = σ (183) ∧ s (184) = σ (184) ∧ (∀ a, a ≠ 15 → a ≠ 16 → a ≠ 17 → a ≠ 18 → a ≠ 19 → a ≠ 20 → a ≠ 21 → ra_g s 179 a = ra_g σ 179 a) ∧ LD s ∧ (0 ≤ ra_g s 179 18 ∧ ra_g s 179 18 ≤ ra_g s 179 17 ∧ ra_g s 179 17 ≤ ra_g s 179 12 ∧ ra_g s 179 12 ≤ 500 ∧ 0 ≤ ra_g s 179 19 ∧ ra_g s 179 19 ≤ 999) ∧ ra_g σ 179 17 ≤ ra_g s 179 17 ∧ s (187) = σ (187)) := by
    intro s hF hk0 hk1 hk2 hk3 hk4 hov hps hmo h8 hua hta h1 hRs hKs hBs k7 hPA hPB
    have hw0 := WF_a hld.1
    unfold WFa at hw0
    have hl5 := hld.2.2.1
    have hR0 := hR
    obtain ⟨⟨q0, q1, q2, q3, q4, q5⟩, q21, -, ⟨q15, q16⟩, qp⟩ := hR0
    have hN0 := hN
    obtain ⟨n1, n2, n3, -, n5, n6, n7⟩ := hN0
    have hRs0 := hRs
    obtain ⟨⟨r0, r1, r2, r3, r4, r5⟩, r21, -, ⟨r15, r16⟩, -⟩ := hRs0
    refine ra_load rfl rfl rfl rfl ?_
    refine ra_iconst rfl ?_
    refine ra_iconst rfl ?_
    refine ra_bipush rfl (by decide) ?_
    refine ra_cQPs (s4_254 (by first | omega | (unfold ra_in at *; omega)) (by first | omega | (unfold ra_in at *; omega)) (by first | omega | (unfold ra_in at *; omega)) hps (by first | assumption | rfl | omega) hBs hKs (by omega)) rfl (ct_254 rfl lk_8_246 (Or.inl rfl) sh_179 (Nat.le_of_ble_eq_true rfl)) (fun z109 s108 hz109 hz109p hs108 => ?_)
    have hz109o := hz109p.1
    have hz109q := hz109p.2
    obtain ⟨hf110, hc111, hc112, hc113, hc114, hc115, he116, he117, he118, he119, he120⟩ := hs108
    have hF121 := Fr_tr (lo := 179) (hi := 189) hF hf110 (by omega)
    have hk122 : s108 (180) = σ (180) := hc111.trans hk0
    have hk123 : s108 (181) = σ (181) := hc112.trans hk1
    have hk124 : s108 (182) = σ (182) := hc113.trans hk2
    have hk125 : s108 (183) = σ (183) := hc114.trans hk3
    have hk126 : s108 (184) = σ (184) := hc115.trans hk4
    refine ra_ifeq rfl rfl (ra_in01 hz109) (fun h127 => ?_) (fun h127 => ?_)
    · refine ra_iconst rfl ?_
      exact ra_ireturn rfl (ra_okB (Or.inl rfl)) ⟨⟨_, (Or.inl rfl), ⟨(fun q => absurd q (by decide)), (x4ro_t hz109q (by omega) rfl (fun x hx => x4pc_f (by omega) hPA hPB hx))⟩, rfl⟩, ⟨hF121, hk123, hk124, hk125, hk126, (fun a h15 h16 h17 h18 h19 h20 h21 => ((he116 a h15 h16 h17 h18 h19 h20).trans (hov a h15 h16 h17 h18 h19 h20 h21))), (LD_k hk122 hld), he118, (by have m_s108 := he119; omega), (he120.trans k7)⟩⟩
    · have to9 := hz109o (by omega)
      rw [toN2] at to9
      rw [toN2] at hz109q
      obtain ⟨-, ht1, hKt, hlt, hut, he1, he1b⟩ := hz109q.resolve_right (fun q => by omega)
      have hR2 : x4RR r s108 := (x4RR_k hc111 ⟨by omega, by omega, (he116 21 (by decide) (by decide) (by decide) (by decide) (by decide) (by decide))⟩ hRs)
      exact ra_weak (by repeat' constructor) (l4_256_166 hpt hld hB hN hR s108 hF121 hk122 hk123 hk124 hk125 hk126 (fun a h15 h16 h17 h18 h19 h20 h21 => ((he116 a h15 h16 h17 h18 h19 h20).trans (hov a h15 h16 h17 h18 h19 h20 h21))) he118 (by have m_s108 := he119; omega) (by first | assumption | omega) (by rw [show ra_g s108 188 0 = ra_g s 188 0 from (he117 0 (by decide)), show ra_g s108 188 1 = ra_g s 188 1 from (he117 1 (by decide))]; exact hua) (by rw [show ra_g s108 188 0 = ra_g s 188 0 from (he117 0 (by decide)), show ra_g s108 188 1 = ra_g s 188 1 from (he117 1 (by decide))]; exact hta) (by have e : ra_g s108 188 1 = ra_g s 188 1 := (he117 1 (by decide)); omega) hR2 hKt (x4TR_k (he116 12 (by decide) (by decide) (by decide) (by decide) (by decide) (by decide)) he120 hBs) (he120.trans k7) (by rw [show ra_g s108 188 0 = ra_g s 188 0 from (he117 0 (by decide))]; exact hPA) (by rw [show ra_g s108 188 0 = ra_g s 188 0 from (he117 0 (by decide)), show ra_g s108 188 1 = ra_g s 188 1 from (he117 1 (by decide))]; exact hPB) ht1)
theorem l4_256_143 {n : Nat} {f : Nat → Int32} {d : Nat}  {σ : ra_V} (hpt : 0 ≤ ra_g σ 179 18 ∧ ra_g σ 179 18 ≤ ra_g σ 179 17 ∧ ra_g σ 179 17 ≤ ra_g σ 179 12 ∧ ra_g σ 179 12 ≤ 500 ∧ 0 ≤ ra_g σ 179 19 ∧ ra_g σ 179 19 ≤ 999) (hld : LD σ) (hB : x4TR σ B bn) (hN : x4RTK B bn σ ta) (hR : x4RR r σ) : ∀ (s : ra_V) (hF : Fr (179) (189) σ s) (hk0 : s (180) = σ (180)) (hk1 : s (181) = σ (181)) (hk2 : s (182) = σ (182)) (hk3 : s (183) = σ (183)) (hk4 : s (184) = σ (184)) (hov : ∀ a, a ≠ 15 → a ≠ 16 → a ≠ 17 → a ≠ 18 → a ≠ 19 → a ≠ 20 → a ≠ 21 → ra_g s 179 a = ra_g σ 179 a) (hps : 0 ≤ ra_g s 179 18 ∧ ra_g s 179 18 ≤ ra_g s 179 17 ∧ ra_g s 179 17 ≤ ra_g s 179 12 ∧ ra_g s 179 12 ≤ 500 ∧ 0 ≤ ra_g s 179 19 ∧ ra_g s 179 19 ≤ 999) (hmo : ra_g σ 179 17 ≤ ra_g s 179 17) (h8 : ra_g σ 180 5 ≠ 8) (hu : US σ (ra_g s 188 0) (ra_g s 179 19)) (htk : ¬ TK σ (ra_g s 188 0) (ra_g s 179 19) (-1)) (hRs : x4RR r s) (hKs : x4RTK B bn s (tx_a B bn (x4tx_n B bn (tx_e B bn ta)))) (hBs : x4TR s B bn) (k7 : s (187) = σ (187)) (hPA : x4PA B bn r ta (ra_g s 188 0)) (hPB : x4PB B bn r ta (ra_g s 188 0) (ra_g s 179 19)), ra_P (g_Gs n f) g_sh 0 (d + 4) g_m_X8_readPart 143 [some (.index (179)), none] [] s (fun r9 s => (∃ z : Int, (z = 0 ∨ z = 1) ∧ ((z = 1 → ra_g s 179 20 = 3 → ra_g σ 179 17 < ra_g s 179 17) ∧ x4ROC B bn s z (tx_part B bn r ta)) ∧ r9 = .inl (some (ra_I z))) ∧ Fr (179) (189) σ s ∧ s (181) = σ (181) ∧ s (182) = σ (182) ∧ s (183) = σ (183) ∧ s (184) = σ (184) ∧ (∀ a, a ≠ 15 → a ≠ 16 → a ≠ 17 → a ≠ 18 → a ≠ 19 → a ≠ 20 → a ≠ 21 → ra_g s 179 a = ra_g σ 179 a) ∧ LD s ∧ (0 ≤ ra_g s 179 18 ∧ ra_g s 179 18 ≤ ra_g s 179 17 ∧ ra_g s 179 17 ≤ ra_g s 179 12 ∧ ra_g s 179 12 ≤ 500 ∧ 0 ≤ ra_g s 179 19 ∧ ra_g s 179 19 ≤ 999) ∧ ra_g σ 179 17 ≤ ra_g s 179 17 ∧ s (187) = σ (187)) := by
    intro s hF hk0 hk1 hk2 hk3 hk4 hov hps hmo h8 hu htk hRs hKs hBs k7 hPA hPB
    have hw0 := WF_a hld.1
    unfold WFa at hw0
    have hl5 := hld.2.2.1
    have hR0 := hR
    obtain ⟨⟨q0, q1, q2, q3, q4, q5⟩, q21, -, ⟨q15, q16⟩, qp⟩ := hR0
    have hN0 := hN
    obtain ⟨n1, n2, n3, -, n5, n6, n7⟩ := hN0
    have hRs0 := hRs
    obtain ⟨⟨r0, r1, r2, r3, r4, r5⟩, r21, -, ⟨r15, r16⟩, -⟩ := hRs0
    refine ra_load rfl rfl rfl rfl ?_
    refine ra_iconst rfl ?_
    refine ra_iconst rfl ?_
    refine ra_sipush rfl (by decide) ?_
    refine ra_cQPs (s4_254 (by first | omega | (unfold ra_in at *; omega)) (by first | omega | (unfold ra_in at *; omega)) (by first | omega | (unfold ra_in at *; omega)) hps (by first | assumption | rfl | omega) hBs hKs (by omega)) rfl (ct_254 rfl lk_8_246 (Or.inl rfl) sh_179 (Nat.le_of_ble_eq_true rfl)) (fun z89 s88 hz89 hz89p hs88 => ?_)
    have hz89o := hz89p.1
    have hz89q := hz89p.2
    obtain ⟨hf90, hc91, hc92, hc93, hc94, hc95, he96, he97, he98, he99, he100⟩ := hs88
    have hF101 := Fr_tr (lo := 179) (hi := 189) hF hf90 (by omega)
    have hk102 : s88 (180) = σ (180) := hc91.trans hk0
    have hk103 : s88 (181) = σ (181) := hc92.trans hk1
    have hk104 : s88 (182) = σ (182) := hc93.trans hk2
    have hk105 : s88 (183) = σ (183) := hc94.trans hk3
    have hk106 : s88 (184) = σ (184) := hc95.trans hk4
    refine ra_ifeq rfl rfl (ra_in01 hz89) (fun h107 => ?_) (fun h107 => ?_)
    · refine ra_iconst rfl ?_
      exact ra_ireturn rfl (ra_okB (Or.inl rfl)) ⟨⟨_, (Or.inl rfl), ⟨(fun q => absurd q (by decide)), (x4ro_t hz89q (by omega) rfl (fun x hx => x4pb_f hRs (WF_a (LD_k hk0 hld).1) (by omega) hPA hx))⟩, rfl⟩, ⟨hF101, hk103, hk104, hk105, hk106, (fun a h15 h16 h17 h18 h19 h20 h21 => ((he96 a h15 h16 h17 h18 h19 h20).trans (hov a h15 h16 h17 h18 h19 h20 h21))), (LD_k hk102 hld), he98, (by have m_s88 := he99; omega), (he100.trans k7)⟩⟩
    · have to9 := hz89o (by omega)
      rw [toN1] at to9
      rw [toN1] at hz89q
      obtain ⟨-, ht1, hKt, hlt, hut, he1, he1b⟩ := hz89q.resolve_right (fun q => by omega)
      have hR2 : x4RR r s88 := (x4RR_k hc91 ⟨by omega, by omega, (he96 21 (by decide) (by decide) (by decide) (by decide) (by decide) (by decide))⟩ hRs)
      exact ra_weak (by repeat' constructor) (l4_256_155 hpt hld hB hN hR s88 hF101 hk102 hk103 hk104 hk105 hk106 (fun a h15 h16 h17 h18 h19 h20 h21 => ((he96 a h15 h16 h17 h18 h19 h20).trans (hov a h15 h16 h17 h18 h19 h20 h21))) he98 (by have m_s88 := he99; omega) (by first | assumption | omega) (by have hr1 := hz89o (by omega); rw [toN1] at hr1; have hr1 : (1 ≤ ra_g s88 188 1 ∧ ra_g s88 188 1 ≤ 999) ∧ ra_g s88 188 1 = ra_g s 179 19 := ⟨by omega, by omega⟩; have e0 : ra_g s88 188 0 = ra_g s 188 0 := (he97 0 (by decide)); rw [show ra_g s88 188 0 = ra_g s 188 0 by omega, show ra_g s88 188 1 = ra_g s 179 19 by omega]; exact hu) (by have hr1 := hz89o (by omega); rw [toN1] at hr1; have hr1 : (1 ≤ ra_g s88 188 1 ∧ ra_g s88 188 1 ≤ 999) ∧ ra_g s88 188 1 = ra_g s 179 19 := ⟨by omega, by omega⟩; have e0 : ra_g s88 188 0 = ra_g s 188 0 := (he97 0 (by decide)); rw [show ra_g s88 188 0 = ra_g s 188 0 by omega, show ra_g s88 188 1 = ra_g s 179 19 by omega]; exact htk) (by have hr1 := hz89o (by omega); rw [toN1] at hr1; have hr1 : (1 ≤ ra_g s88 188 1 ∧ ra_g s88 188 1 ≤ 999) ∧ ra_g s88 188 1 = ra_g s 179 19 := ⟨by omega, by omega⟩; have e0 : ra_g s88 188 0 = ra_g s 188 0 := (he97 0 (by decide)); omega) hR2 hKt (x4TR_k (he96 12 (by decide) (by decide) (by decide) (by decide) (by decide) (by decide)) he100 hBs) (he100.trans k7) (by rw [show ra_g s88 188 0 = ra_g s 188 0 from (he97 0 (by decide))]; exact hPA) (by rw [show ra_g s88 188 0 = ra_g s 188 0 from (he97 0 (by decide)), show ra_g s88 188 1 = ra_g s 179 19 by omega]; exact hPB))
theorem l4_256_92 {n : Nat} {f : Nat → Int32} {d : Nat}  {σ : ra_V} (hpt : 0 ≤ ra_g σ 179 18 ∧ ra_g σ 179 18 ≤ ra_g σ 179 17 ∧ ra_g σ 179 17 ≤ ra_g σ 179 12 ∧ ra_g σ 179 12 ≤ 500 ∧ 0 ≤ ra_g σ 179 19 ∧ ra_g σ 179 19 ≤ 999) (hld : LD σ) (hB : x4TR σ B bn) (hN : x4RTK B bn σ ta) (hR : x4RR r σ) : ∀ (s : ra_V) (hF : Fr (179) (189) σ s) (hk0 : s (180) = σ (180)) (hk1 : s (181) = σ (181)) (hk2 : s (182) = σ (182)) (hk3 : s (183) = σ (183)) (hk4 : s (184) = σ (184)) (hov : ∀ a, a ≠ 15 → a ≠ 16 → a ≠ 17 → a ≠ 18 → a ≠ 19 → a ≠ 20 → a ≠ 21 → ra_g s 179 a = ra_g σ 179 a) (hps : 0 ≤ ra_g s 179 18 ∧ ra_g s 179 18 ≤ ra_g s 179 17 ∧ ra_g s 179 17 ≤ ra_g s 179 12 ∧ ra_g s 179 12 ≤ 500 ∧ 0 ≤ ra_g s 179 19 ∧ ra_g s 179 19 ≤ 999) (hmo : ra_g σ 179 17 ≤ ra_g s 179 17) (h8 : ra_g σ 180 5 ≠ 8) (hr : 0 ≤ ra_g s 188 0 ∧ ra_g s 188 0 ≤ 999) (hv : 1 ≤ ra_g s 179 19 ∧ ra_g s 179 19 ≤ 999) (hRs : x4RR r s) (hKs : x4RTK B bn s (tx_a B bn (x4tx_n B bn (tx_e B bn ta)))) (hBs : x4TR s B bn) (k7 : s (187) = σ (187)) (hPA : x4PA B bn r ta (ra_g s 188 0)) (hN2 : tx_rd B bn (x4tx_n B bn (tx_e B bn ta)) 1 999 = .inr (ra_g s 179 19, x4tx_n B bn (x4tx_n B bn (tx_e B bn ta)))), ra_P (g_Gs n f) g_sh 0 (d + 4) g_m_X8_readPart 92 [some (.index (179)), none] [] s (fun r9 s => (∃ z : Int, (z = 0 ∨ z = 1) ∧ ((z = 1 → ra_g s 179 20 = 3 → ra_g σ 179 17 < ra_g s 179 17) ∧ x4ROC B bn s z (tx_part B bn r ta)) ∧ r9 = .inl (some (ra_I z))) ∧ Fr (179) (189) σ s ∧ s (181) = σ (181) ∧ s (182) = σ (182) ∧ s (183) = σ (183) ∧ s (184) = σ (184) ∧ (∀ a, a ≠ 15 → a ≠ 16 → a ≠ 17 → a ≠ 18 → a ≠ 19 → a ≠ 20 → a ≠ 21 → ra_g s 179 a = ra_g σ 179 a) ∧ LD s ∧ (0 ≤ ra_g s 179 18 ∧ ra_g s 179 18 ≤ ra_g s 179 17 ∧ ra_g s 179 17 ≤ ra_g s 179 12 ∧ ra_g s 179 12 ≤ 500 ∧ 0 ≤ ra_g s 179 19 ∧ ra_g s 179 19 ≤ 999) ∧ ra_g σ 179 17 ≤ ra_g s 179 17 ∧ s (187) = σ (187)) := by
    intro s hF hk0 hk1 hk2 hk3 hk4 hov hps hmo h8 hr hv hRs hKs hBs k7 hPA hN2
    have hw0 := WF_a hld.1
    unfold WFa at hw0
    have hl5 := hld.2.2.1
    have hR0 := hR
    obtain ⟨⟨q0, q1, q2, q3, q4, q5⟩, q21, -, ⟨q15, q16⟩, qp⟩ := hR0
    have hN0 := hN
    obtain ⟨n1, n2, n3, -, n5, n6, n7⟩ := hN0
    have hRs0 := hRs
    obtain ⟨⟨r0, r1, r2, r3, r4, r5⟩, r21, -, ⟨r15, r16⟩, -⟩ := hRs0
    refine ra_load rfl rfl rfl rfl ?_
    refine ra_load rfl rfl rfl rfl ?_
    refine ra_getR rfl lk_8_38 (Nat.zero_le _) sh_179 rfl ?_
    refine ra_iconst rfl ?_
    refine ra_ialoadJ (j := 0) rfl sh_188 rfl (by decide) rfl (by decide) ?_
    have hr78 : ra_in (ra_g s (188) 0) := (ra_in_g _ _ _)
    refine ra_i2l rfl hr78 ?_
    refine ra_load rfl rfl rfl rfl ?_
    refine ra_getI rfl lk_8_201 (Nat.zero_le _) sh_179 rfl ?_
    have hr79 : ra_in (ra_g s (179) 19) := (ra_in_g _ _ _)
    refine ra_i2l rfl hr79 ?_
    refine ra_cQPp (sp_210 hr78 hr79 (WF_a (LD_k hk0 hld).1)) rfl (ct_210 rfl lk_8_103 (Or.inl rfl) sh_179 (Nat.le_of_ble_eq_true rfl)) (fun z81 hz81 hz81p => ?_)
    refine ra_ifne rfl rfl (ra_in01 hz81) (fun h82 => ?_) (fun h82 => ?_)
    · refine ra_load rfl rfl rfl rfl ?_
      refine ra_load rfl rfl rfl rfl ?_
      refine ra_getR rfl lk_8_38 (Nat.zero_le _) sh_179 rfl ?_
      refine ra_iconst rfl ?_
      refine ra_ialoadJ (j := 0) rfl sh_188 rfl (by decide) rfl (by decide) ?_
      have hr83 : ra_in (ra_g s (188) 0) := (ra_in_g _ _ _)
      refine ra_i2l rfl hr83 ?_
      refine ra_load rfl rfl rfl rfl ?_
      refine ra_getI rfl lk_8_201 (Nat.zero_le _) sh_179 rfl ?_
      have hr84 : ra_in (ra_g s (179) 19) := (ra_in_g _ _ _)
      refine ra_i2l rfl hr84 ?_
      refine ra_iconst rfl ?_
      refine ra_cQPp (sp_212 hr83 hr84 (by first | omega | (unfold ra_in at *; omega))) rfl (ct_212 rfl lk_8_107 (Or.inl rfl) sh_179 (Nat.le_of_ble_eq_true rfl)) (fun z86 hz86 hz86p => ?_)
      refine ra_ifeq rfl rfl (ra_in01 hz86) (fun h87 => ?_) (fun h87 => ?_)
      · exact ra_weak (by repeat' constructor) (l4_256_143 hpt hld hB hN hR s hF hk0 hk1 hk2 hk3 hk4 (fun a h15 h16 h17 h18 h19 h20 h21 => (hov a h15 h16 h17 h18 h19 h20 h21)) hps (by omega) (by first | assumption | omega) (US_k hk0 (hz81p.mp (by omega))) (fun q => absurd (hz86p.mpr (TK_k hk0.symm q)) (by omega)) hRs hKs hBs k7 hPA (x4pb_1 hRs (LD_k hk0 hld) hN2 (hz81p.mp (by omega)) (fun q => absurd (hz86p.mpr q) (by omega))))
      · refine ra_load rfl rfl rfl rfl ?_
        refine ra_iconst rfl ?_
        refine ra_cQP (s4_251 (by first | omega | (unfold ra_in at *; omega))) rfl (ct_251 rfl lk_8_233 (Or.inl rfl) sh_179 (Nat.le_of_ble_eq_true rfl)) (fun z162 s161 hz162 hz162p hs161 => ?_)
        obtain ⟨hf163, he164, he165⟩ := hs161
        have hF166 := Fr_tr (lo := 179) (hi := 189) hF hf163 (by omega)
        have hk167 : s161 (180) = σ (180) := (hf163 (180) (by omega)).trans hk0
        have hk168 : s161 (181) = σ (181) := (hf163 (181) (by omega)).trans hk1
        have hk169 : s161 (182) = σ (182) := (hf163 (182) (by omega)).trans hk2
        have hk170 : s161 (183) = σ (183) := (hf163 (183) (by omega)).trans hk3
        have hk171 : s161 (184) = σ (184) := (hf163 (184) (by omega)).trans hk4
        exact ra_ireturn rfl (ra_okB hz162) ⟨⟨_, hz162, ⟨(fun q => absurd q (by omega)), (x4ro_f (c := 4) (a := tx_a B bn (x4tx_n B bn (tx_e B bn ta))) hz162p (x4pb_t hRs (LD_k hk0 hld) (by omega) hPA hN2 (hz81p.mp (by omega)) (hz86p.mp (by omega))) (by have q := he165 hRs.2.2.2.1.1; omega) (by have q := he165 hRs.2.2.2.1.1; have q9 := hKs.1; omega))⟩, rfl⟩, ⟨hF166, hk168, hk169, hk170, hk171, (fun a h15 h16 h17 h18 h19 h20 h21 => ((he164 a h15 h16).trans (hov a h15 h16 h17 h18 h19 h20 h21))), (LD_k hk167 hld), (pt_e (he164 12 (by decide) (by decide)) (he164 17 (by decide) (by decide)) (he164 18 (by decide) (by decide)) (he164 19 (by decide) (by decide)) hps), (by have m_s161 : ra_g s161 179 17 = ra_g s 179 17 := (he164 17 (by decide) (by decide)); have k_s161 : ra_g s161 179 20 = ra_g s 179 20 := (he164 20 (by decide) (by decide)); omega), ((hf163 (187) (by omega)).trans k7)⟩⟩
    · refine ra_load rfl rfl rfl rfl ?_
      refine ra_iconst rfl ?_
      refine ra_cQP (s4_251 (by first | omega | (unfold ra_in at *; omega))) rfl (ct_251 rfl lk_8_233 (Or.inl rfl) sh_179 (Nat.le_of_ble_eq_true rfl)) (fun z173 s172 hz173 hz173p hs172 => ?_)
      obtain ⟨hf174, he175, he176⟩ := hs172
      have hF177 := Fr_tr (lo := 179) (hi := 189) hF hf174 (by omega)
      have hk178 : s172 (180) = σ (180) := (hf174 (180) (by omega)).trans hk0
      have hk179 : s172 (181) = σ (181) := (hf174 (181) (by omega)).trans hk1
      have hk180 : s172 (182) = σ (182) := (hf174 (182) (by omega)).trans hk2
      have hk181 : s172 (183) = σ (183) := (hf174 (183) (by omega)).trans hk3
      have hk182 : s172 (184) = σ (184) := (hf174 (184) (by omega)).trans hk4
      exact ra_ireturn rfl (ra_okB hz173) ⟨⟨_, hz173, ⟨(fun q => absurd q (by omega)), (x4ro_f (c := 2) (a := tx_a B bn (x4tx_n B bn (tx_e B bn ta))) hz173p (x4pb_n hRs (by omega) hPA hN2 (fun q => absurd (hz81p.mpr q) (by omega))) (by have q := he176 hRs.2.2.2.1.1; omega) (by have q := he176 hRs.2.2.2.1.1; have q9 := hKs.1; omega))⟩, rfl⟩, ⟨hF177, hk179, hk180, hk181, hk182, (fun a h15 h16 h17 h18 h19 h20 h21 => ((he175 a h15 h16).trans (hov a h15 h16 h17 h18 h19 h20 h21))), (LD_k hk178 hld), (pt_e (he175 12 (by decide) (by decide)) (he175 17 (by decide) (by decide)) (he175 18 (by decide) (by decide)) (he175 19 (by decide) (by decide)) hps), (by have m_s172 : ra_g s172 179 17 = ra_g s 179 17 := (he175 17 (by decide) (by decide)); have k_s172 : ra_g s172 179 20 = ra_g s 179 20 := (he175 20 (by decide) (by decide)); omega), ((hf174 (187) (by omega)).trans k7)⟩⟩
theorem l4_256_67 {n : Nat} {f : Nat → Int32} {d : Nat}  {σ : ra_V} (hpt : 0 ≤ ra_g σ 179 18 ∧ ra_g σ 179 18 ≤ ra_g σ 179 17 ∧ ra_g σ 179 17 ≤ ra_g σ 179 12 ∧ ra_g σ 179 12 ≤ 500 ∧ 0 ≤ ra_g σ 179 19 ∧ ra_g σ 179 19 ≤ 999) (hld : LD σ) (hB : x4TR σ B bn) (hN : x4RTK B bn σ ta) (hR : x4RR r σ) : ∀ (s : ra_V) (hF : Fr (179) (189) σ s) (hk0 : s (180) = σ (180)) (hk1 : s (181) = σ (181)) (hk2 : s (182) = σ (182)) (hk3 : s (183) = σ (183)) (hk4 : s (184) = σ (184)) (hov : ∀ a, a ≠ 15 → a ≠ 16 → a ≠ 17 → a ≠ 18 → a ≠ 19 → a ≠ 20 → a ≠ 21 → ra_g s 179 a = ra_g σ 179 a) (hps : 0 ≤ ra_g s 179 18 ∧ ra_g s 179 18 ≤ ra_g s 179 17 ∧ ra_g s 179 17 ≤ ra_g s 179 12 ∧ ra_g s 179 12 ≤ 500 ∧ 0 ≤ ra_g s 179 19 ∧ ra_g s 179 19 ≤ 999) (hmo : ra_g σ 179 17 ≤ ra_g s 179 17) (h8 : ra_g σ 180 5 ≠ 8) (hRs : x4RR r s) (hKs : x4RTK B bn s (tx_a B bn (tx_e B bn ta))) (hBs : x4TR s B bn) (k7 : s (187) = σ (187)) (hPA : x4PA B bn r ta (ra_g s 179 19)), ra_P (g_Gs n f) g_sh 0 (d + 4) g_m_X8_readPart 67 [some (.index (179)), none] [] s (fun r9 s => (∃ z : Int, (z = 0 ∨ z = 1) ∧ ((z = 1 → ra_g s 179 20 = 3 → ra_g σ 179 17 < ra_g s 179 17) ∧ x4ROC B bn s z (tx_part B bn r ta)) ∧ r9 = .inl (some (ra_I z))) ∧ Fr (179) (189) σ s ∧ s (181) = σ (181) ∧ s (182) = σ (182) ∧ s (183) = σ (183) ∧ s (184) = σ (184) ∧ (∀ a, a ≠ 15 → a ≠ 16 → a ≠ 17 → a ≠ 18 → a ≠ 19 → a ≠ 20 → a ≠ 21 → ra_g s 179 a = ra_g σ 179 a) ∧ LD s ∧ (0 ≤ ra_g s 179 18 ∧ ra_g s 179 18 ≤ ra_g s 179 17 ∧ ra_g s 179 17 ≤ ra_g s 179 12 ∧ ra_g s 179 12 ≤ 500 ∧ 0 ≤ ra_g s 179 19 ∧ ra_g s 179 19 ≤ 999) ∧ ra_g σ 179 17 ≤ ra_g s 179 17 ∧ s (187) = σ (187)) := by
    intro s hF hk0 hk1 hk2 hk3 hk4 hov hps hmo h8 hRs hKs hBs k7 hPA
    have hw0 := WF_a hld.1
    unfold WFa at hw0
    have hl5 := hld.2.2.1
    have hR0 := hR
    obtain ⟨⟨q0, q1, q2, q3, q4, q5⟩, q21, -, ⟨q15, q16⟩, qp⟩ := hR0
    have hN0 := hN
    obtain ⟨n1, n2, n3, -, n5, n6, n7⟩ := hN0
    have hRs0 := hRs
    obtain ⟨⟨r0, r1, r2, r3, r4, r5⟩, r21, -, ⟨r15, r16⟩, -⟩ := hRs0
    refine ra_load rfl rfl rfl rfl ?_
    refine ra_iconst rfl ?_
    refine ra_iconst rfl ?_
    refine ra_sipush rfl (by decide) ?_
    refine ra_cQPs (s4_254 (by first | omega | (unfold ra_in at *; omega)) (by first | omega | (unfold ra_in at *; omega)) (by first | omega | (unfold ra_in at *; omega)) hps (by first | assumption | rfl | omega) hBs hKs (by omega)) rfl (ct_254 rfl lk_8_246 (Or.inl rfl) sh_179 (Nat.le_of_ble_eq_true rfl)) (fun z48 s47 hz48 hz48p hs47 => ?_)
    have hz48o := hz48p.1
    have hz48q := hz48p.2
    obtain ⟨hf49, hc50, hc51, hc52, hc53, hc54, he55, he56, he57, he58, he59⟩ := hs47
    have hF60 := Fr_tr (lo := 179) (hi := 189) hF hf49 (by omega)
    have hk61 : s47 (180) = σ (180) := hc50.trans hk0
    have hk62 : s47 (181) = σ (181) := hc51.trans hk1
    have hk63 : s47 (182) = σ (182) := hc52.trans hk2
    have hk64 : s47 (183) = σ (183) := hc53.trans hk3
    have hk65 : s47 (184) = σ (184) := hc54.trans hk4
    refine ra_ifeq rfl rfl (ra_in01 hz48) (fun h66 => ?_) (fun h66 => ?_)
    · refine ra_iconst rfl ?_
      exact ra_ireturn rfl (ra_okB (Or.inl rfl)) ⟨⟨_, (Or.inl rfl), ⟨(fun q => absurd q (by decide)), (x4ro_t hz48q (by omega) rfl (fun x hx => x4pa_f hRs (WF_a (LD_k hk0 hld).1) (by omega) hx))⟩, rfl⟩, ⟨hF60, hk62, hk63, hk64, hk65, (fun a h15 h16 h17 h18 h19 h20 h21 => ((he55 a h15 h16 h17 h18 h19 h20).trans (hov a h15 h16 h17 h18 h19 h20 h21))), (LD_k hk61 hld), he57, (by have m_s47 := he58; omega), (he59.trans k7)⟩⟩
    · have hr0 := hz48o (by omega)
      rw [toN0] at hr0
      rw [toN0] at hz48q
      obtain ⟨-, ht1, hKt, hlt, hut, he1, he1b⟩ := hz48q.resolve_right (fun q => by omega)
      refine ra_load rfl rfl rfl rfl ?_
      refine ra_iconst rfl ?_
      refine ra_sipush rfl (by decide) ?_
      refine ra_cQPs (s4_253 (by first | omega | (unfold ra_in at *; omega)) (by first | omega | (unfold ra_in at *; omega)) (by have q := he57; omega) (x4RTK_k rfl rfl rfl rfl hKt) (by omega)) rfl (ct_253 rfl lk_8_236 (Or.inl rfl) sh_179 (Nat.le_of_ble_eq_true rfl)) (fun z68 s67 hz68 hz68p hs67 => ?_)
      have hz68o := hz68p.1
      have hz68q := hz68p.2
      obtain ⟨hf69, he70⟩ := hs67
      have hF71 := Fr_tr (lo := 179) (hi := 189) hF60 hf69 (by omega)
      have hk72 : s67 (180) = σ (180) := (hf69 (180) (by omega)).trans hk61
      have hk73 : s67 (181) = σ (181) := (hf69 (181) (by omega)).trans hk62
      have hk74 : s67 (182) = σ (182) := (hf69 (182) (by omega)).trans hk63
      have hk75 : s67 (183) = σ (183) := (hf69 (183) (by omega)).trans hk64
      have hk76 : s67 (184) = σ (184) := (hf69 (184) (by omega)).trans hk65
      refine ra_ifne rfl rfl (ra_in01 hz68) (fun h77 => ?_) (fun h77 => ?_)
      · obtain ⟨-, hr2, hl2, hu2, he2, he2b⟩ := hz68q.resolve_right (fun q => by omega)
        have hv19 : ra_g s67 179 19 = ra_g s47 179 19 := (he70 19 (by decide) (by decide))
        have e80 : ra_g s67 188 0 = ra_g s47 188 0 := ra_gk (hf69 188 (by omega))
        rw [← hv19] at hr2
        exact ra_weak (by repeat' constructor) (l4_256_92 hpt hld hB hN hR s67 hF71 hk72 hk73 hk74 hk75 hk76 (fun a h15 h16 h17 h18 h19 h20 h21 => ((he70 a h15 h16).trans ((he55 a h15 h16 h17 h18 h19 h20).trans (hov a h15 h16 h17 h18 h19 h20 h21)))) (pt_e (he70 12 (by decide) (by decide)) (he70 17 (by decide) (by decide)) (he70 18 (by decide) (by decide)) (he70 19 (by decide) (by decide)) he57) (by have m_s47 := he58; have m_s67 : ra_g s67 179 17 = ra_g s47 179 17 := (he70 17 (by decide) (by decide)); have k_s67 : ra_g s67 179 20 = ra_g s47 179 20 := (he70 20 (by decide) (by decide)); omega) (by first | assumption | omega) (by have e := (ra_gk (hf69 188 (by omega)) : ra_g s67 188 0 = ra_g s47 188 0); omega) (by have e := (he70 19 (by decide) (by decide)); have a := hz68o (by omega); omega) (x4RR_k ((hf69 (180) (by omega)).trans hc50) ⟨by omega, by omega, ((he70 21 (by decide) (by decide)).trans (he55 21 (by decide) (by decide) (by decide) (by decide) (by decide) (by decide)))⟩ hRs) (x4RTK_k (he70 17 (by decide) (by decide)) (he70 18 (by decide) (by decide)) (he70 19 (by decide) (by decide)) (he70 20 (by decide) (by decide)) hKt) (x4TR_k ((he70 12 (by decide) (by decide)).trans (he55 12 (by decide) (by decide) (by decide) (by decide) (by decide) (by decide))) ((hf69 (187) (by omega)).trans he59) hBs) (((hf69 (187) (by omega)).trans he59).trans k7) (by rw [show ra_g s67 188 0 = ra_g s 179 19 by omega]; exact hPA) hr2)
      · refine ra_iconst rfl ?_
        exact ra_ireturn rfl (ra_okB (Or.inl rfl)) ⟨⟨_, (Or.inl rfl), ⟨(fun q => absurd q (by decide)), (x4ro_n hz68q (by omega) rfl (fun x hx => x4pb_f hRs (WF_a (LD_k hk0 hld).1) (by omega) hPA hx))⟩, rfl⟩, ⟨hF71, hk73, hk74, hk75, hk76, (fun a h15 h16 h17 h18 h19 h20 h21 => ((he70 a h15 h16).trans ((he55 a h15 h16 h17 h18 h19 h20).trans (hov a h15 h16 h17 h18 h19 h20 h21)))), (LD_k hk72 hld), (pt_e (he70 12 (by decide) (by decide)) (he70 17 (by decide) (by decide)) (he70 18 (by decide) (by decide)) (he70 19 (by decide) (by decide)) he57), (by have m_s47 := he58; have m_s67 : ra_g s67 179 17 = ra_g s47 179 17 := (he70 17 (by decide) (by decide)); have k_s67 : ra_g s67 179 20 = ra_g s47 179 20 := (he70 20 (by decide) (by decide)); omega), (((hf69 (187) (by omega)).trans he59).trans k7)⟩⟩
theorem s4_256 {n : Nat} {f : Nat → Int32} {d : Nat}  {σ : ra_V} (hpt : 0 ≤ ra_g σ 179 18 ∧ ra_g σ 179 18 ≤ ra_g σ 179 17 ∧ ra_g σ 179 17 ≤ ra_g σ 179 12 ∧ ra_g σ 179 12 ≤ 500 ∧ 0 ≤ ra_g σ 179 19 ∧ ra_g σ 179 19 ≤ 999) (hld : LD σ) (hB : x4TR σ B bn) (hN : x4RTK B bn σ ta) (hR : x4RR r σ) : ra_C (g_Gs n f) g_sh 0 (d + 5) 256 [.index (179)] σ (fun r9 s => (∃ z : Int, (z = 0 ∨ z = 1) ∧ ((z = 1 → ra_g s 179 20 = 3 → ra_g σ 179 17 < ra_g s 179 17) ∧ x4ROC B bn s z (tx_part B bn r ta)) ∧ r9 = .inl (some (ra_I z))) ∧ Fr (179) (189) σ s ∧ s (181) = σ (181) ∧ s (182) = σ (182) ∧ s (183) = σ (183) ∧ s (184) = σ (184) ∧ (∀ a, a ≠ 15 → a ≠ 16 → a ≠ 17 → a ≠ 18 → a ≠ 19 → a ≠ 20 → a ≠ 21 → ra_g s 179 a = ra_g σ 179 a) ∧ LD s ∧ (0 ≤ ra_g s 179 18 ∧ ra_g s 179 18 ≤ ra_g s 179 17 ∧ ra_g s 179 17 ≤ ra_g s 179 12 ∧ ra_g s 179 12 ≤ 500 ∧ 0 ≤ ra_g s 179 19 ∧ ra_g s 179 19 ≤ 999) ∧ ra_g σ 179 17 ≤ ra_g s 179 17 ∧ s (187) = σ (187)) := by
  refine ra_enter (nn := 1) mt_256 rfl (Nat.le_of_ble_eq_true rfl) rfl (fun h => absurd h (by decide +kernel)) ?_
  have hw0 := WF_a hld.1
  unfold WFa at hw0
  have hl5 := hld.2.2.1
  have hR0 := hR
  obtain ⟨⟨q0, q1, q2, q3, q4, q5⟩, q21, -, ⟨q15, q16⟩, qp⟩ := hR0
  have hN0 := hN
  obtain ⟨n1, n2, n3, -, n5, n6, n7⟩ := hN0
  refine ra_load rfl rfl rfl rfl ?_
  refine ra_getR rfl lk_8_7 (Nat.zero_le _) sh_179 rfl ?_
  refine ra_iconst rfl ?_
  refine ra_ialoadJ (j := 5) rfl sh_180 rfl (by decide) rfl (by decide) ?_
  have hr1 : ra_in (ra_g σ (180) 5) := (ra_in_g _ _ _)
  refine ra_bipush rfl (by decide) ?_
  refine ra_icne rfl rfl hr1 (by first | omega | (unfold ra_in at *; omega)) (fun h2 => ?_) (fun h2 => ?_)
  · refine ra_load rfl rfl rfl rfl ?_
    refine ra_cV (s4_249 (by have q := hpt; omega) hB (show ra_g σ 179 17 = ((tx_e B bn ta : Nat) : Int) from n2) (by omega)) rfl (ct_249 rfl lk_8_240 (Or.inl rfl) sh_179 (Nat.le_of_ble_eq_true rfl)) (fun s3 hs3 => ?_)
    obtain ⟨hf4, he5, he6, he7, he8⟩ := hs3
    have hF9 := Fr_tr (lo := 179) (hi := 189) Fr_rf hf4 (by omega)
    have hk10 : s3 (180) = σ (180) := (hf4 (180) (by omega))
    have hk11 : s3 (181) = σ (181) := (hf4 (181) (by omega))
    have hk12 : s3 (182) = σ (182) := (hf4 (182) (by omega))
    have hk13 : s3 (183) = σ (183) := (hf4 (183) (by omega))
    have hk14 : s3 (184) = σ (184) := (hf4 (184) (by omega))
    have hk15 : s3 (187) = σ (187) := (hf4 (187) (by omega))
    refine ra_load rfl rfl rfl rfl ?_
    refine ra_iconst rfl ?_
    refine ra_sipush rfl (by decide) ?_
    refine ra_cQPs (s4_253 (by first | omega | (unfold ra_in at *; omega)) (by first | omega | (unfold ra_in at *; omega)) (by have q := he6; omega) he8 (((he5 15 (by decide) (by decide) (by decide) (by decide))).trans q15)) rfl (ct_253 rfl lk_8_236 (Or.inl rfl) sh_179 (Nat.le_of_ble_eq_true rfl)) (fun z17 s16 hz17 hz17p hs16 => ?_)
    have hz17o := hz17p.1
    have hz17q := hz17p.2
    obtain ⟨hf18, he19⟩ := hs16
    have hF20 := Fr_tr (lo := 179) (hi := 189) hF9 hf18 (by omega)
    have hk21 : s16 (180) = σ (180) := (hf18 (180) (by omega)).trans hk10
    have hk22 : s16 (181) = σ (181) := (hf18 (181) (by omega)).trans hk11
    have hk23 : s16 (182) = σ (182) := (hf18 (182) (by omega)).trans hk12
    have hk24 : s16 (183) = σ (183) := (hf18 (183) (by omega)).trans hk13
    have hk25 : s16 (184) = σ (184) := (hf18 (184) (by omega)).trans hk14
    have hk26 : s16 (187) = σ (187) := (hf18 (187) (by omega)).trans hk15
    refine ra_ifne rfl rfl (ra_in01 hz17) (fun h27 => ?_) (fun h27 => ?_)
    · obtain ⟨-, hr1, hl1, hu1, he1, he1b⟩ := hz17q.resolve_right (fun q => by omega)
      have hv19 : ra_g s16 179 19 = ra_g s3 179 19 := (he19 19 (by decide) (by decide))
      rw [← hv19] at hr1
      have a16 : ra_g s3 179 16 = ra_g σ 179 16 := (he5 16 (by decide) (by decide) (by decide) (by decide))
      have hR2 : x4RR r s16 := (x4RR_k ((hf18 (180) (by omega)).trans (hf4 (180) (by omega))) ⟨by omega, by omega, ((he19 21 (by decide) (by decide)).trans (he5 21 (by decide) (by decide) (by decide) (by decide)))⟩ hR)
      have hK2 := (x4RTK_k (he19 17 (by decide) (by decide)) (he19 18 (by decide) (by decide)) (he19 19 (by decide) (by decide)) (he19 20 (by decide) (by decide)) he8)
      have hW2 := WFa_k ((hf18 (180) (by omega)).trans (hf4 (180) (by omega))) (WF_a hld.1)
      refine ra_load rfl rfl rfl rfl ?_
      refine ra_load rfl rfl rfl rfl ?_
      refine ra_getI rfl lk_8_201 (Nat.zero_le _) sh_179 rfl ?_
      have hr28 : ra_in (ra_g s16 (179) 19) := (ra_in_g _ _ _)
      refine ra_i2l rfl hr28 ?_
      refine ra_lconst1 rfl ?_
      refine ra_cQPp (sp_210 hr28 (by first | omega | (unfold ra_in at *; omega)) (WF_a (LD_k hk21 hld).1)) rfl (ct_210 rfl lk_8_103 (Or.inl rfl) sh_179 (Nat.le_of_ble_eq_true rfl)) (fun z30 hz30 hz30p => ?_)
      refine ra_ifeq rfl rfl (ra_in01 hz30) (fun h31 => ?_) (fun h31 => ?_)
      · refine ra_load rfl rfl rfl rfl ?_
        refine ra_iconst rfl ?_
        refine ra_cQP (s4_251 (by first | omega | (unfold ra_in at *; omega))) rfl (ct_251 rfl lk_8_233 (Or.inl rfl) sh_179 (Nat.le_of_ble_eq_true rfl)) (fun z33 s32 hz33 hz33p hs32 => ?_)
        obtain ⟨hf34, he35, he36⟩ := hs32
        have hF37 := Fr_tr (lo := 179) (hi := 189) hF20 hf34 (by omega)
        have hk38 : s32 (180) = σ (180) := (hf34 (180) (by omega)).trans hk21
        have hk39 : s32 (181) = σ (181) := (hf34 (181) (by omega)).trans hk22
        have hk40 : s32 (182) = σ (182) := (hf34 (182) (by omega)).trans hk23
        have hk41 : s32 (183) = σ (183) := (hf34 (183) (by omega)).trans hk24
        have hk42 : s32 (184) = σ (184) := (hf34 (184) (by omega)).trans hk25
        have hk43 : s32 (187) = σ (187) := (hf34 (187) (by omega)).trans hk26
        exact ra_ireturn rfl (ra_okB hz33) ⟨⟨_, hz33, ⟨(fun q => absurd q (by omega)), (x4ro_f (c := 2) (a := tx_a B bn (tx_e B bn ta)) hz33p (x4pa_n hR2 hW2 (by omega) hr1 (by first | exact Or.inl (fun q => absurd (hz30p.mpr q) (by omega)) | exact Or.inr (by rw [ra_gk ((hf18 (180) (by omega)).trans (hf4 (180) (by omega)))]; omega))) (by have q := he36 he1; omega) (by have q := he36 he1; have q9 := hK2.1; omega))⟩, rfl⟩, ⟨hF37, hk39, hk40, hk41, hk42, (fun a h15 h16 h17 h18 h19 h20 h21 => ((he35 a h15 h16).trans ((he19 a h15 h16).trans (he5 a h17 h18 h19 h20)))), (LD_k hk38 hld), (pt_e (he35 12 (by decide) (by decide)) (he35 17 (by decide) (by decide)) (he35 18 (by decide) (by decide)) (he35 19 (by decide) (by decide)) (pt_e (he19 12 (by decide) (by decide)) (he19 17 (by decide) (by decide)) (he19 18 (by decide) (by decide)) (he19 19 (by decide) (by decide)) he6)), (by have m_s3 := he7.1; have m_s16 : ra_g s16 179 17 = ra_g s3 179 17 := (he19 17 (by decide) (by decide)); have k_s16 : ra_g s16 179 20 = ra_g s3 179 20 := (he19 20 (by decide) (by decide)); have m_s32 : ra_g s32 179 17 = ra_g s16 179 17 := (he35 17 (by decide) (by decide)); have k_s32 : ra_g s32 179 20 = ra_g s16 179 20 := (he35 20 (by decide) (by decide)); omega), ((hf34 (187) (by omega)).trans ((hf18 (187) (by omega)).trans (hf4 (187) (by omega))))⟩⟩
      · refine ra_load rfl rfl rfl rfl ?_
        refine ra_getI rfl lk_8_201 (Nat.zero_le _) sh_179 rfl ?_
        have hr44 : ra_in (ra_g s16 (179) 19) := (ra_in_g _ _ _)
        refine ra_load rfl rfl rfl rfl ?_
        refine ra_getR rfl lk_8_7 (Nat.zero_le _) sh_179 rfl ?_
        refine ra_iconst rfl ?_
        refine ra_ialoadJ (j := 3) rfl sh_180 rfl (by decide) rfl (by decide) ?_
        rw [ra_gk hk21]
        have hr45 : ra_in (ra_g σ (180) 3) := (ra_in_g _ _ _)
        refine ra_irem rfl hr44 hr45 (by omega) ?_
        refine ra_ifeq rfl rfl (ra_in_tmod hr44 (by omega)) (fun h46 => ?_) (fun h46 => ?_)
        · exact ra_weak (by repeat' constructor) (l4_256_67 hpt hld hB hN hR s16 hF20 hk21 hk22 hk23 hk24 hk25 (fun a h15 h16 h17 h18 h19 h20 h21 => ((he19 a h15 h16).trans (he5 a h17 h18 h19 h20))) (pt_e (he19 12 (by decide) (by decide)) (he19 17 (by decide) (by decide)) (he19 18 (by decide) (by decide)) (he19 19 (by decide) (by decide)) he6) (by have m_s3 := he7.1; have m_s16 : ra_g s16 179 17 = ra_g s3 179 17 := (he19 17 (by decide) (by decide)); have k_s16 : ra_g s16 179 20 = ra_g s3 179 20 := (he19 20 (by decide) (by decide)); omega) (by first | assumption | omega) hR2 hK2 (x4TR_k ((he19 12 (by decide) (by decide)).trans (he5 12 (by decide) (by decide) (by decide) (by decide))) ((hf18 (187) (by omega)).trans (hf4 (187) (by omega))) hB) ((hf18 (187) (by omega)).trans (hf4 (187) (by omega))) (x4pa_1 hR2 hW2 hr1 (hz30p.mp (by omega)) (by rw [ra_gk ((hf18 (180) (by omega)).trans (hf4 (180) (by omega)))]; omega)))
        · refine ra_load rfl rfl rfl rfl ?_
          refine ra_iconst rfl ?_
          refine ra_cQP (s4_251 (by first | omega | (unfold ra_in at *; omega))) rfl (ct_251 rfl lk_8_233 (Or.inl rfl) sh_179 (Nat.le_of_ble_eq_true rfl)) (fun z184 s183 hz184 hz184p hs183 => ?_)
          obtain ⟨hf185, he186, he187⟩ := hs183
          have hF188 := Fr_tr (lo := 179) (hi := 189) hF20 hf185 (by omega)
          have hk189 : s183 (180) = σ (180) := (hf185 (180) (by omega)).trans hk21
          have hk190 : s183 (181) = σ (181) := (hf185 (181) (by omega)).trans hk22
          have hk191 : s183 (182) = σ (182) := (hf185 (182) (by omega)).trans hk23
          have hk192 : s183 (183) = σ (183) := (hf185 (183) (by omega)).trans hk24
          have hk193 : s183 (184) = σ (184) := (hf185 (184) (by omega)).trans hk25
          have hk194 : s183 (187) = σ (187) := (hf185 (187) (by omega)).trans hk26
          exact ra_ireturn rfl (ra_okB hz184) ⟨⟨_, hz184, ⟨(fun q => absurd q (by omega)), (x4ro_f (c := 2) (a := tx_a B bn (tx_e B bn ta)) hz184p (x4pa_n hR2 hW2 (by omega) hr1 (by first | exact Or.inl (fun q => absurd (hz30p.mpr q) (by omega)) | exact Or.inr (by rw [ra_gk ((hf18 (180) (by omega)).trans (hf4 (180) (by omega)))]; omega))) (by have q := he187 he1; omega) (by have q := he187 he1; have q9 := hK2.1; omega))⟩, rfl⟩, ⟨hF188, hk190, hk191, hk192, hk193, (fun a h15 h16 h17 h18 h19 h20 h21 => ((he186 a h15 h16).trans ((he19 a h15 h16).trans (he5 a h17 h18 h19 h20)))), (LD_k hk189 hld), (pt_e (he186 12 (by decide) (by decide)) (he186 17 (by decide) (by decide)) (he186 18 (by decide) (by decide)) (he186 19 (by decide) (by decide)) (pt_e (he19 12 (by decide) (by decide)) (he19 17 (by decide) (by decide)) (he19 18 (by decide) (by decide)) (he19 19 (by decide) (by decide)) he6)), (by have m_s3 := he7.1; have m_s16 : ra_g s16 179 17 = ra_g s3 179 17 := (he19 17 (by decide) (by decide)); have k_s16 : ra_g s16 179 20 = ra_g s3 179 20 := (he19 20 (by decide) (by decide)); have m_s183 : ra_g s183 179 17 = ra_g s16 179 17 := (he186 17 (by decide) (by decide)); have k_s183 : ra_g s183 179 20 = ra_g s16 179 20 := (he186 20 (by decide) (by decide)); omega), ((hf185 (187) (by omega)).trans ((hf18 (187) (by omega)).trans (hf4 (187) (by omega))))⟩⟩
    · refine ra_iconst rfl ?_
      exact ra_ireturn rfl (ra_okB (Or.inl rfl)) ⟨⟨_, (Or.inl rfl), ⟨(fun q => absurd q (by decide)), (x4ro_n hz17q (by omega) rfl (fun x hx => x4pa_f hR (WF_a hld.1) (by omega) hx))⟩, rfl⟩, ⟨hF20, hk22, hk23, hk24, hk25, (fun a h15 h16 h17 h18 h19 h20 h21 => ((he19 a h15 h16).trans (he5 a h17 h18 h19 h20))), (LD_k hk21 hld), (pt_e (he19 12 (by decide) (by decide)) (he19 17 (by decide) (by decide)) (he19 18 (by decide) (by decide)) (he19 19 (by decide) (by decide)) he6), (by have m_s3 := he7.1; have m_s16 : ra_g s16 179 17 = ra_g s3 179 17 := (he19 17 (by decide) (by decide)); have k_s16 : ra_g s16 179 20 = ra_g s3 179 20 := (he19 20 (by decide) (by decide)); omega), ((hf18 (187) (by omega)).trans (hf4 (187) (by omega)))⟩⟩
  · refine ra_load rfl rfl rfl rfl ?_
    refine ra_iconst rfl ?_
    refine ra_cQP (s4_251 (by first | omega | (unfold ra_in at *; omega))) rfl (ct_251 rfl lk_8_233 (Or.inl rfl) sh_179 (Nat.le_of_ble_eq_true rfl)) (fun z196 s195 hz196 hz196p hs195 => ?_)
    obtain ⟨hf197, he198, he199⟩ := hs195
    have hF200 := Fr_tr (lo := 179) (hi := 189) Fr_rf hf197 (by omega)
    have hk201 : s195 (180) = σ (180) := (hf197 (180) (by omega))
    have hk202 : s195 (181) = σ (181) := (hf197 (181) (by omega))
    have hk203 : s195 (182) = σ (182) := (hf197 (182) (by omega))
    have hk204 : s195 (183) = σ (183) := (hf197 (183) (by omega))
    have hk205 : s195 (184) = σ (184) := (hf197 (184) (by omega))
    have hk206 : s195 (187) = σ (187) := (hf197 (187) (by omega))
    exact ra_ireturn rfl (ra_okB hz196) ⟨⟨_, hz196, ⟨(fun q => absurd q (by omega)), (x4ro_f (c := 5) (a := ta) hz196p (x4part_0 (by omega)) (by have q := he199 q15; omega) (by have q := he199 q15; omega))⟩, rfl⟩, ⟨hF200, hk202, hk203, hk204, hk205, (fun a h15 h16 h17 h18 h19 h20 h21 => (he198 a h15 h16)), (LD_k hk201 hld), (pt_e (he198 12 (by decide) (by decide)) (he198 17 (by decide) (by decide)) (he198 18 (by decide) (by decide)) (he198 19 (by decide) (by decide)) hpt), (by have m_s195 : ra_g s195 179 17 = ra_g σ 179 17 := (he198 17 (by decide) (by decide)); have k_s195 : ra_g s195 179 20 = ra_g σ 179 20 := (he198 20 (by decide) (by decide)); omega), (hf197 (187) (by omega))⟩⟩
end
