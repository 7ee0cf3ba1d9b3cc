section
/-! T4: what the reference's methods that read a text do (printed by wip/gen/r4.py) -/
section
variable {B : Nat → Int} {bn ps ta ti : Nat} {r : Nat → Int}
theorem l4_210_3 {n : Nat} {f : Nat → Int32} {d : Nat} {x0 : Int} {x1 : Int} {x2 : Int} {x3 : Int} {σ : ra_V} (hx0 : ra_in x0) (hx1 : ra_in x1) (hx2 : ra_in x2) (hx3 : ra_in x3) (hx : ∃ q, 0 ≤ q ∧ q < 8 ∧ wq σ q 0 ≠ 1) (hn : 0 ≤ x0 ∧ 1 ≤ x1 ∧ x0 + x1 ≤ 600) (h5 : 0 ≤ ra_g σ 180 5 ∧ ra_g σ 180 5 ≤ 8) : ∀ (nn : Nat) (v5 : Int) (hv5_0 : 0 ≤ v5) (hv5_1 : ∀ r, 0 ≤ r → r < v5 → wq σ r 0 = 1) (hm : ((8 - v5 : Int)).toNat < nn), ra_P (g_Gs n f) g_sh 0 (d + 3) g_m_X8_makes 3 [some (.index (179)), some (ra_I x0), some (ra_I x1), some (ra_I x2), some (ra_I x3), some (ra_I v5)] [] σ (fun r9 s => (∃ z, ra_in z ∧ (MK2 σ s z x0 x1 x3 ∧ wq s z 5 = 0) ∧ r9 = .inl (some (ra_I z))) ∧ Fr (180) (181) σ s) := by
  intro nn
  induction nn with
  | zero => intro v5 hv5_0 hv5_1 hm; exact absurd hm (Nat.not_lt_zero _)
  | succ nn ih =>
    intro v5 hv5_0 hv5_1 hm
    have hv8 : v5 < 8 := free_lt hx hv5_1
    refine ra_load rfl rfl rfl rfl ?_
    refine ra_load rfl rfl rfl rfl ?_
    refine ra_iconst rfl ?_
    refine ra_cTp (sp_200 (by first | omega | (unfold ra_in at *; omega)) (by first | omega | (unfold ra_in at *; omega)) (by first | assumption | rfl | omega)) rfl (ct_200 rfl lk_8_67 (Or.inl rfl) sh_179 (Nat.le_of_ble_eq_true rfl)) ?_
    have hr2 : ra_in (wq σ v5 (0)) := (ra_in_wq _ _ _)
    refine ra_iconst rfl ?_
    refine ra_icne rfl rfl hr2 (by first | omega | (unfold ra_in at *; omega)) (fun h3 => ?_) (fun h3 => ?_)
    · refine ra_load rfl rfl rfl rfl ?_
      refine ra_load rfl rfl rfl rfl ?_
      refine ra_iconst rfl ?_
      refine ra_iconst rfl ?_
      refine ra_cV (sp_201 (by first | omega | (unfold ra_in at *; omega)) (by first | omega | (unfold ra_in at *; omega)) (by first | omega | (unfold ra_in at *; omega)) (by first | assumption | rfl | omega)) rfl (ct_201 rfl lk_8_78 (Or.inl rfl) sh_179 (Nat.le_of_ble_eq_true rfl)) (fun s4 hs4 => ?_)
      obtain ⟨hf5, he6, he7⟩ := hs4
      have hF8 := Fr_tr (lo := 180) (hi := 181) Fr_rf hf5 (by omega)
      refine ra_load rfl rfl rfl rfl ?_
      refine ra_load rfl rfl rfl rfl ?_
      refine ra_iconst rfl ?_
      refine ra_load rfl rfl rfl rfl ?_
      refine ra_cV (sp_201 (by first | omega | (unfold ra_in at *; omega)) (by first | omega | (unfold ra_in at *; omega)) hx0 (by first | assumption | rfl | omega)) rfl (ct_201 rfl lk_8_78 (Or.inl rfl) sh_179 (Nat.le_of_ble_eq_true rfl)) (fun s9 hs9 => ?_)
      obtain ⟨hf10, he11, he12⟩ := hs9
      have hF13 := Fr_tr (lo := 180) (hi := 181) hF8 hf10 (by omega)
      refine ra_load rfl rfl rfl rfl ?_
      refine ra_load rfl rfl rfl rfl ?_
      refine ra_iconst rfl ?_
      refine ra_load rfl rfl rfl rfl ?_
      refine ra_cV (sp_201 (by first | omega | (unfold ra_in at *; omega)) (by first | omega | (unfold ra_in at *; omega)) hx1 (by first | assumption | rfl | omega)) rfl (ct_201 rfl lk_8_78 (Or.inl rfl) sh_179 (Nat.le_of_ble_eq_true rfl)) (fun s14 hs14 => ?_)
      obtain ⟨hf15, he16, he17⟩ := hs14
      have hF18 := Fr_tr (lo := 180) (hi := 181) hF13 hf15 (by omega)
      refine ra_load rfl rfl rfl rfl ?_
      refine ra_load rfl rfl rfl rfl ?_
      refine ra_iconst rfl ?_
      refine ra_load rfl rfl rfl rfl ?_
      refine ra_cV (sp_201 (by first | omega | (unfold ra_in at *; omega)) (by first | omega | (unfold ra_in at *; omega)) hx3 (by first | assumption | rfl | omega)) rfl (ct_201 rfl lk_8_78 (Or.inl rfl) sh_179 (Nat.le_of_ble_eq_true rfl)) (fun s19 hs19 => ?_)
      obtain ⟨hf20, he21, he22⟩ := hs19
      have hF23 := Fr_tr (lo := 180) (hi := 181) hF18 hf20 (by omega)
      refine ra_load rfl rfl rfl rfl ?_
      refine ra_load rfl rfl rfl rfl ?_
      refine ra_iconst rfl ?_
      refine ra_load rfl rfl rfl rfl ?_
      refine ra_cV (sp_201 (by first | omega | (unfold ra_in at *; omega)) (by first | omega | (unfold ra_in at *; omega)) hx2 (by first | assumption | rfl | omega)) rfl (ct_201 rfl lk_8_78 (Or.inl rfl) sh_179 (Nat.le_of_ble_eq_true rfl)) (fun s24 hs24 => ?_)
      obtain ⟨hf25, he26, he27⟩ := hs24
      have hF28 := Fr_tr (lo := 180) (hi := 181) hF23 hf25 (by omega)
      refine ra_load rfl rfl rfl rfl ?_
      refine ra_load rfl rfl rfl rfl ?_
      refine ra_iconst rfl ?_
      refine ra_iconst rfl ?_
      refine ra_cV (sp_201 (by first | omega | (unfold ra_in at *; omega)) (by first | omega | (unfold ra_in at *; omega)) (by first | omega | (unfold ra_in at *; omega)) (by first | assumption | rfl | omega)) rfl (ct_201 rfl lk_8_78 (Or.inl rfl) sh_179 (Nat.le_of_ble_eq_true rfl)) (fun s29 hs29 => ?_)
      obtain ⟨hf30, he31, he32⟩ := hs29
      have hF33 := Fr_tr (lo := 180) (hi := 181) hF28 hf30 (by omega)
      refine ra_load rfl rfl rfl rfl ?_
      refine ra_load rfl rfl rfl rfl ?_
      refine ra_bipush rfl (by decide) ?_
      refine ra_load rfl rfl rfl rfl ?_
      refine ra_getR rfl lk_8_7 (Nat.zero_le _) sh_179 rfl ?_
      refine ra_iconst rfl ?_
      refine ra_ialoadJ (j := 5) rfl sh_180 rfl (by decide) rfl (by decide) ?_
      have hr34 : ra_in (ra_g s29 (180) 5) := (ra_in_g _ _ _)
      refine ra_cV (sp_201 (by first | omega | (unfold ra_in at *; omega)) (by first | omega | (unfold ra_in at *; omega)) hr34 (by first | assumption | rfl | omega)) rfl (ct_201 rfl lk_8_78 (Or.inl rfl) sh_179 (Nat.le_of_ble_eq_true rfl)) (fun s35 hs35 => ?_)
      obtain ⟨hf36, he37, he38⟩ := hs35
      have hF39 := Fr_tr (lo := 180) (hi := 181) hF33 hf36 (by omega)
      refine ra_load rfl rfl rfl rfl ?_
      refine ra_load rfl rfl rfl rfl ?_
      refine ra_bipush rfl (by decide) ?_
      refine ra_iconst rfl ?_
      refine ra_cV (sp_201 (by first | omega | (unfold ra_in at *; omega)) (by first | omega | (unfold ra_in at *; omega)) (by first | omega | (unfold ra_in at *; omega)) (by first | assumption | rfl | omega)) rfl (ct_201 rfl lk_8_78 (Or.inl rfl) sh_179 (Nat.le_of_ble_eq_true rfl)) (fun s40 hs40 => ?_)
      obtain ⟨hf41, he42, he43⟩ := hs40
      have hF44 := Fr_tr (lo := 180) (hi := 181) hF39 hf41 (by omega)
      refine ra_load rfl rfl rfl rfl ?_
      have e5 : ra_g s40 180 5 = ra_g σ 180 5 := ((he43 5 (by omega)).trans ((he38 5 (by omega)).trans ((he32 5 (by omega)).trans ((he27 5 (by omega)).trans ((he22 5 (by omega)).trans ((he17 5 (by omega)).trans ((he12 5 (by omega)).trans (he7 5 (by omega)))))))))
      refine ra_getR rfl lk_8_7 (Nat.zero_le _) sh_179 rfl ?_
      refine ra_iconst rfl ?_
      refine ra_dup2 rfl rfl rfl ?_
      refine ra_ialoadJ (j := 5) rfl sh_180 rfl (by decide) rfl (by decide) ?_
      have hr45 : ra_in (ra_g s40 (180) 5) := (ra_in_g _ _ _)
      refine ra_iconst rfl ?_
      refine ra_iadd rfl ?_
      refine ra_iastoreJ (j := 5) rfl sh_180 rfl (by decide) rfl (by decide) ?_
      refine ra_newR (by first | omega | (unfold ra_in at *; omega)) (fun s46 hs46 hs46v hs46o => ?_)
      have hF47 := Fr_tr (lo := 180) (hi := 181) hF44 hs46 (by omega)
      refine ra_load rfl rfl rfl rfl ?_
      refine ra_load rfl rfl rfl rfl ?_
      refine ra_iconst rfl ?_
      refine ra_cV (sp_209 (by first | omega | (unfold ra_in at *; omega)) (by first | omega | (unfold ra_in at *; omega)) (by first | assumption | rfl | omega) (by have := mk_chain (a := x0) (m := x1) (mn := x3) ⟨by omega, by omega, by omega⟩ he6 he7 he11 he12 he16 he17 he21 he22 he27 he32 he38 he43 hs46o SC_rf; obtain ⟨-, -, t1, t2, -⟩ := this; omega) (by first | assumption | rfl | omega)) rfl (ct_209 rfl lk_8_82 (Or.inl rfl) sh_179 (Nat.le_of_ble_eq_true rfl)) (fun s48 hs48 => ?_)
      obtain ⟨hf49, he50⟩ := hs48
      have hF51 := Fr_tr (lo := 180) (hi := 181) hF47 hf49 (by omega)
      refine ra_load rfl rfl rfl rfl ?_
      exact ra_ireturn rfl rfl ⟨⟨_, (by first | omega | (unfold ra_in at *; omega)), ⟨⟨(mk_chain ⟨by omega, by omega, by omega⟩ he6 he7 he11 he12 he16 he17 he21 he22 he27 he32 he38 he43 hs46o he50), ((he50 5 (by decide)).trans (by have t := hs46v; omega)), hv5_1⟩, ((he50 _ (by omega)).trans ((hs46o _ (by omega)).trans ((he43 _ (by omega)).trans ((he38 _ (by omega)).trans he31))))⟩, rfl⟩, hF51⟩
    · refine ra_iinc (L' := [_, _, _, _, _, _]) rfl rfl (Nat.le_of_ble_eq_true rfl) rfl ?_
      refine ra_goto rfl rfl ?_
      exact ra_weak (by repeat' constructor) (ih (v5 + 1) (by first | omega | (unfold ra_in at *; omega)) (fun r a b => if e : r = v5 then (by rw [e]; omega) else hv5_1 r a (by omega)) (by first | omega | (unfold ra_in at *; omega)))
theorem s4_210 {n : Nat} {f : Nat → Int32} {d : Nat} {x0 : Int} {x1 : Int} {x2 : Int} {x3 : Int} {σ : ra_V} (hx0 : ra_in x0) (hx1 : ra_in x1) (hx2 : ra_in x2) (hx3 : ra_in x3) (hx : ∃ q, 0 ≤ q ∧ q < 8 ∧ wq σ q 0 ≠ 1) (hn : 0 ≤ x0 ∧ 1 ≤ x1 ∧ x0 + x1 ≤ 600) (h5 : 0 ≤ ra_g σ 180 5 ∧ ra_g σ 180 5 ≤ 8) : ra_C (g_Gs n f) g_sh 0 (d + 4) 210 [.index (179), ra_I x0, ra_I x1, ra_I x2, ra_I x3] σ (fun r9 s => (∃ z, ra_in z ∧ (MK2 σ s z x0 x1 x3 ∧ wq s z 5 = 0) ∧ r9 = .inl (some (ra_I z))) ∧ Fr (180) (181) σ s) := by
  refine ra_enter (nn := 1) mt_210 rfl (Nat.le_of_ble_eq_true rfl) rfl (fun h => absurd h (by decide +kernel)) ?_
  refine ra_iconst rfl ?_
  refine ra_store (L' := [_, _, _, _, _, _]) rfl rfl rfl (Nat.le_of_ble_eq_true rfl) rfl ?_
  exact ra_weak (by repeat' constructor) (l4_210_3 hx0 hx1 hx2 hx3 hx hn h5 _ (0) (by first | omega | (unfold ra_in at *; omega)) (fun r a b => by omega) (Nat.lt_succ_self _))
theorem l4_257_183 {n : Nat} {f : Nat → Int32} {d : Nat}  {σ : ra_V} (hpt : 0 ≤ ra_g σ 179 18 ∧ ra_g σ 179 18 ≤ ra_g σ 179 17 ∧ ra_g σ 179 17 ≤ ra_g σ 179 12 ∧ ra_g σ 179 12 ≤ 500 ∧ 0 ≤ ra_g σ 179 19 ∧ ra_g σ 179 19 ≤ 999) (hld : LD σ) (hB : x4TR σ B bn) (hN : x4RTK B bn σ ta) (hR : x4RR r σ) : ∀ (s : ra_V) (hF : Fr (179) (189) σ s) (hk0 : s (180) = σ (180)) (hk1 : s (181) = σ (181)) (hk2 : s (182) = σ (182)) (hk3 : s (183) = σ (183)) (hk4 : s (184) = σ (184)) (hov : ∀ a, a ≠ 15 → a ≠ 16 → a ≠ 17 → a ≠ 18 → a ≠ 19 → a ≠ 20 → a ≠ 21 → ra_g s 179 a = ra_g σ 179 a) (hps : 0 ≤ ra_g s 179 18 ∧ ra_g s 179 18 ≤ ra_g s 179 17 ∧ ra_g s 179 17 ≤ ra_g s 179 12 ∧ ra_g s 179 12 ≤ 500 ∧ 0 ≤ ra_g s 179 19 ∧ ra_g s 179 19 ≤ 999) (hmo : ra_g σ 179 17 ≤ ra_g s 179 17) (h8 : ra_g σ 180 5 ≠ 8) (hua : US σ (ra_g s 188 0) (ra_g s 188 1)) (hta : ¬ TK σ (ra_g s 188 0) (ra_g s 188 1) (-1)) (h3 : 1 ≤ ra_g s 188 3 ∧ ra_g s 188 3 ≤ ra_g s 188 1) (hadv : ra_g s 179 20 = 3 → ra_g σ 179 17 < ra_g s 179 17) (hRs : x4RR r s) (hKs : x4RTK B bn s (tx_a B bn (x4tx_n B bn (x4tx_n B bn (x4tx_n B bn (x4tx_n B bn (tx_e B bn ta))))))) (hBs : x4TR s B bn) (k7 : s (187) = σ (187)) (hPA : x4PA B bn r ta (ra_g s 188 0)) (hPB : x4PB B bn r ta (ra_g s 188 0) (ra_g s 188 1)) (hPC : tx_rd B bn (x4tx_n B bn (x4tx_n B bn (tx_e B bn ta))) 0 9 = .inr (ra_g s 188 2, x4tx_n B bn (x4tx_n B bn (x4tx_n B bn (tx_e B bn ta))))) (hPD : tx_rd B bn (x4tx_n B bn (x4tx_n B bn (x4tx_n B bn (tx_e B bn ta)))) 1 (ra_g s 188 1) = .inr (ra_g s 188 3, x4tx_n B bn (x4tx_n B bn (x4tx_n B bn (x4tx_n B bn (tx_e B bn ta)))))) (hKu : tx_a B bn (x4tx_n B bn (x4tx_n B bn (x4tx_n B bn (tx_e B bn ta)))) ≤ bn ∧ tx_a B bn (x4tx_n B bn (x4tx_n B bn (x4tx_n B bn (tx_e B bn ta)))) ≤ x4tx_n B bn (x4tx_n B bn (x4tx_n B bn (x4tx_n B bn (tx_e B bn ta)))) ∧ x4tx_n B bn (x4tx_n B bn (x4tx_n B bn (x4tx_n B bn (tx_e B bn ta)))) ≤ bn), ra_P (g_Gs n f) g_sh 0 (d + 4) g_m_X8_readPart 183 [some (.index (179)), none] [] s (fun r9 s => (∃ z : Int, (z = 0 ∨ z = 1) ∧ ((z = 1 → ra_g s 179 20 = 3 → ra_g σ 179 17 < ra_g s 179 17) ∧ x4ROC B bn s z (tx_part B bn r ta)) ∧ r9 = .inl (some (ra_I z))) ∧ Fr (179) (189) σ s ∧ s (181) = σ (181) ∧ s (182) = σ (182) ∧ s (183) = σ (183) ∧ s (184) = σ (184) ∧ (∀ a, a ≠ 15 → a ≠ 16 → a ≠ 17 → a ≠ 18 → a ≠ 19 → a ≠ 20 → a ≠ 21 → ra_g s 179 a = ra_g σ 179 a) ∧ LD s ∧ (0 ≤ ra_g s 179 18 ∧ ra_g s 179 18 ≤ ra_g s 179 17 ∧ ra_g s 179 17 ≤ ra_g s 179 12 ∧ ra_g s 179 12 ≤ 500 ∧ 0 ≤ ra_g s 179 19 ∧ ra_g s 179 19 ≤ 999) ∧ ra_g σ 179 17 ≤ ra_g s 179 17 ∧ s (187) = σ (187)) := by
    intro s hF hk0 hk1 hk2 hk3 hk4 hov hps hmo h8 hua hta h3 hadv hRs hKs hBs k7 hPA hPB hPC hPD hKu
    have hw0 := WF_a hld.1
    unfold WFa at hw0
    have hl5 := hld.2.2.1
    have hus := US_k hk0.symm hua
    have hus2 := hus
    unfold US at hus2
    have e5 : ra_g s 180 5 = ra_g σ 180 5 := ra_gk hk0
    have e0 : ra_g s 180 0 = ra_g σ 180 0 := ra_gk hk0
    have e1 : ra_g s 180 1 = ra_g σ 180 1 := ra_gk hk0
    have e2 : ra_g s 180 2 = ra_g σ 180 2 := ra_gk hk0
    have hR0 := hR
    obtain ⟨⟨q0, q1, q2, q3, q4, q5⟩, q21, -, ⟨q15, q16⟩, qp⟩ := hR0
    have hN0 := hN
    obtain ⟨n1, n2, n3, -, n5, n6, n7⟩ := hN0
    have hRs0 := hRs
    obtain ⟨⟨r0, r1, r2, r3, r4, r5⟩, r21, -, ⟨r15, r16⟩, -⟩ := hRs0
    refine ra_load rfl rfl rfl rfl ?_
    refine ra_load rfl rfl rfl rfl ?_
    refine ra_getR rfl lk_8_38 (Nat.zero_le _) sh_179 rfl ?_
    refine ra_iconst rfl ?_
    refine ra_ialoadJ (j := 0) rfl sh_188 rfl (by decide) rfl (by decide) ?_
    have hr149 : ra_in (ra_g s (188) 0) := (ra_in_g _ _ _)
    refine ra_load rfl rfl rfl rfl ?_
    refine ra_getR rfl lk_8_38 (Nat.zero_le _) sh_179 rfl ?_
    refine ra_iconst rfl ?_
    refine ra_ialoadJ (j := 1) rfl sh_188 rfl (by decide) rfl (by decide) ?_
    have hr150 : ra_in (ra_g s (188) 1) := (ra_in_g _ _ _)
    refine ra_load rfl rfl rfl rfl ?_
    refine ra_getR rfl lk_8_38 (Nat.zero_le _) sh_179 rfl ?_
    refine ra_iconst rfl ?_
    refine ra_ialoadJ (j := 2) rfl sh_188 rfl (by decide) rfl (by decide) ?_
    have hr151 : ra_in (ra_g s (188) 2) := (ra_in_g _ _ _)
    refine ra_load rfl rfl rfl rfl ?_
    refine ra_getR rfl lk_8_38 (Nat.zero_le _) sh_179 rfl ?_
    refine ra_iconst rfl ?_
    refine ra_ialoadJ (j := 3) rfl sh_188 rfl (by decide) rfl (by decide) ?_
    have hr152 : ra_in (ra_g s (188) 3) := (ra_in_g _ _ _)
    refine ra_cIPs (s4_210 hr149 hr150 hr151 hr152 (LD_x (LD_k hk0 hld) (by omega)) (by omega) (by omega)) rfl (ct_210 rfl lk_8_250 (Or.inl rfl) sh_179 (Nat.le_of_ble_eq_true rfl)) (fun z154 s153 hz154 hz154p hs153 => ?_)
    have hF155 := Fr_tr (lo := 179) (hi := 189) hF hs153 (by omega)
    have hk156 : s153 (181) = σ (181) := (hs153 (181) (by omega)).trans hk1
    have hk157 : s153 (182) = σ (182) := (hs153 (182) (by omega)).trans hk2
    have hk158 : s153 (183) = σ (183) := (hs153 (183) (by omega)).trans hk3
    have hk159 : s153 (184) = σ (184) := (hs153 (184) (by omega)).trans hk4
    refine ra_store (L' := [_, _]) rfl rfl rfl (Nat.le_of_ble_eq_true rfl) rfl ?_
    refine ra_load rfl rfl rfl rfl ?_
    refine ra_iflt rfl rfl hz154 (fun h160 => ?_) (fun h160 => ?_)
    · refine ra_iconst rfl ?_
      exact ra_ireturn rfl (ra_okB (Or.inl rfl)) ⟨⟨_, (Or.inl rfl), ⟨(fun q => absurd q (by decide)), (by exfalso; have q9 := hz154p.1.1.1.1; omega)⟩, rfl⟩, ⟨hF155, hk156, hk157, hk158, hk159, (fun a h15 h16 h17 h18 h19 h20 h21 => ((ra_gk (hs153 179 (by omega))).trans (hov a h15 h16 h17 h18 h19 h20 h21))), (LD_new (LD_k hk0 hld) hz154p.1 (by omega) hus (fun q => hta (TK_k hk0 q)) ⟨by omega, by omega⟩), (pt_e (ra_gk (hs153 179 (by omega))) (ra_gk (hs153 179 (by omega))) (ra_gk (hs153 179 (by omega))) (ra_gk (hs153 179 (by omega))) hps), (by have m_s153 : ra_g s153 179 17 = ra_g s 179 17 := (ra_gk (hs153 179 (by omega))); have k_s153 : ra_g s153 179 20 = ra_g s 179 20 := (ra_gk (hs153 179 (by omega))); omega), ((hs153 (187) (by omega)).trans k7)⟩⟩
    · refine ra_iconst rfl ?_
      refine ra_goto rfl rfl ?_
      exact ra_ireturn rfl (ra_okB (Or.inr rfl)) ⟨⟨_, (Or.inr rfl), ⟨(fun _ q => by have m_s153 : ra_g s153 179 17 = ra_g s 179 17 := (ra_gk (hs153 179 (by omega))); have k_s153 : ra_g s153 179 20 = ra_g s 179 20 := (ra_gk (hs153 179 (by omega))); have a := hadv (by omega); omega), (x4ro_y rfl (x4pd_y (by omega) hPA hPB hPC hPD) (x4RR_mk2 hRs (LD_k hk0 hld) (by omega) hz154p.1 hz154p.2 ⟨(ra_gk (hs153 179 (by omega))), (ra_gk (hs153 179 (by omega))), (ra_gk (hs153 179 (by omega)))⟩) (x4RTK_k (ra_gk (hs153 179 (by omega))) (ra_gk (hs153 179 (by omega))) (ra_gk (hs153 179 (by omega))) (ra_gk (hs153 179 (by omega))) hKs) hKu.2.2)⟩, rfl⟩, ⟨hF155, hk156, hk157, hk158, hk159, (fun a h15 h16 h17 h18 h19 h20 h21 => ((ra_gk (hs153 179 (by omega))).trans (hov a h15 h16 h17 h18 h19 h20 h21))), (LD_new (LD_k hk0 hld) hz154p.1 (by omega) hus (fun q => hta (TK_k hk0 q)) ⟨by omega, by omega⟩), (pt_e (ra_gk (hs153 179 (by omega))) (ra_gk (hs153 179 (by omega))) (ra_gk (hs153 179 (by omega))) (ra_gk (hs153 179 (by omega))) hps), (by have m_s153 : ra_g s153 179 17 = ra_g s 179 17 := (ra_gk (hs153 179 (by omega))); have k_s153 : ra_g s153 179 20 = ra_g s 179 20 := (ra_gk (hs153 179 (by omega))); omega), ((hs153 (187) (by omega)).trans k7)⟩⟩
theorem l4_257_166 {n : Nat} {f : Nat → Int32} {d : Nat}  {σ : ra_V} (hpt : 0 ≤ ra_g σ 179 18 ∧ ra_g σ 179 18 ≤ ra_g σ 179 17 ∧ ra_g σ 179 17 ≤ ra_g σ 179 12 ∧ ra_g σ 179 12 ≤ 500 ∧ 0 ≤ ra_g σ 179 19 ∧ ra_g σ 179 19 ≤ 999) (hld : LD σ) (hB : x4TR σ B bn) (hN : x4RTK B bn σ ta) (hR : x4RR r σ) : ∀ (s : ra_V) (hF : Fr (179) (189) σ s) (hk0 : s (180) = σ (180)) (hk1 : s (181) = σ (181)) (hk2 : s (182) = σ (182)) (hk3 : s (183) = σ (183)) (hk4 : s (184) = σ (184)) (hov : ∀ a, a ≠ 15 → a ≠ 16 → a ≠ 17 → a ≠ 18 → a ≠ 19 → a ≠ 20 → a ≠ 21 → ra_g s 179 a = ra_g σ 179 a) (hps : 0 ≤ ra_g s 179 18 ∧ ra_g s 179 18 ≤ ra_g s 179 17 ∧ ra_g s 179 17 ≤ ra_g s 179 12 ∧ ra_g s 179 12 ≤ 500 ∧ 0 ≤ ra_g s 179 19 ∧ ra_g s 179 19 ≤ 999) (hmo : ra_g σ 179 17 ≤ ra_g s 179 17) (h8 : ra_g σ 180 5 ≠ 8) (hua : US σ (ra_g s 188 0) (ra_g s 188 1)) (hta : ¬ TK σ (ra_g s 188 0) (ra_g s 188 1) (-1)) (h1 : 1 ≤ ra_g s 188 1 ∧ ra_g s 188 1 ≤ 999) (hRs : x4RR r s) (hKs : x4RTK B bn s (tx_a B bn (x4tx_n B bn (x4tx_n B bn (x4tx_n B bn (tx_e B bn ta)))))) (hBs : x4TR s B bn) (k7 : s (187) = σ (187)) (hPA : x4PA B bn r ta (ra_g s 188 0)) (hPB : x4PB B bn r ta (ra_g s 188 0) (ra_g s 188 1)) (hPC : tx_rd B bn (x4tx_n B bn (x4tx_n B bn (tx_e B bn ta))) 0 9 = .inr (ra_g s 188 2, x4tx_n B bn (x4tx_n B bn (x4tx_n B bn (tx_e B bn ta))))), ra_P (g_Gs n f) g_sh 0 (d + 4) g_m_X8_readPart 166 [some (.index (179)), none] [] s (fun r9 s => (∃ z : Int, (z = 0 ∨ z = 1) ∧ ((z = 1 → ra_g s 179 20 = 3 → ra_g σ 179 17 < ra_g s 179 17) ∧ x4ROC B bn s z (tx_part B bn r ta)) ∧ r9 = .inl (some (ra_I z))) ∧ Fr (179) (189) σ s ∧ s (181) = σ (181) ∧ s (182) = σ (182) ∧ s (183) = σ (183) ∧ s (184) = σ (184) ∧ (∀ a, a ≠ 15 → a ≠ 16 → a ≠ 17 → a ≠ 18 → a ≠ 19 → a ≠ 20 → a ≠ 21 → ra_g s 179 a = ra_g σ 179 a) ∧ LD s ∧ (0 ≤ ra_g s 179 18 ∧ ra_g s 179 18 ≤ ra_g s 179 17 ∧ ra_g s 179 17 ≤ ra_g s 179 12 ∧ ra_g s 179 12 ≤ 500 ∧ 0 ≤ ra_g s 179 19 ∧ ra_g s 179 19 ≤ 999) ∧ ra_g σ 179 17 ≤ ra_g s 179 17 ∧ s (187) = σ (187)) := by
    intro s hF hk0 hk1 hk2 hk3 hk4 hov hps hmo h8 hua hta h1 hRs hKs hBs k7 hPA hPB hPC
    have hw0 := WF_a hld.1
    unfold WFa at hw0
    have hl5 := hld.2.2.1
    have hR0 := hR
    obtain ⟨⟨q0, q1, q2, q3, q4, q5⟩, q21, -, ⟨q15, q16⟩, qp⟩ := hR0
    have hN0 := hN
    obtain ⟨n1, n2, n3, -, n5, n6, n7⟩ := hN0
    have hRs0 := hRs
    obtain ⟨⟨r0, r1, r2, r3, r4, r5⟩, r21, -, ⟨r15, r16⟩, -⟩ := hRs0
    refine ra_load rfl rfl rfl rfl ?_
    refine ra_iconst rfl ?_
    refine ra_iconst rfl ?_
    refine ra_load rfl rfl rfl rfl ?_
    refine ra_getR rfl lk_8_38 (Nat.zero_le _) sh_179 rfl ?_
    refine ra_iconst rfl ?_
    refine ra_ialoadJ (j := 1) rfl sh_188 rfl (by decide) rfl (by decide) ?_
    have hr128 : ra_in (ra_g s (188) 1) := (ra_in_g _ _ _)
    refine ra_cQPs (s4_255 (by first | omega | (unfold ra_in at *; omega)) (by first | omega | (unfold ra_in at *; omega)) hr128 hps (by first | assumption | rfl | omega) hBs hKs (by omega)) rfl (ct_255 rfl lk_8_246 (Or.inl rfl) sh_179 (Nat.le_of_ble_eq_true rfl)) (fun z130 s129 hz130 hz130p hs129 => ?_)
    have hz130o := hz130p.1
    have hz130q := hz130p.2
    obtain ⟨hf131, hc132, hc133, hc134, hc135, hc136, he137, he138, he139, he140, he141⟩ := hs129
    have hF142 := Fr_tr (lo := 179) (hi := 189) hF hf131 (by omega)
    have hk143 : s129 (180) = σ (180) := hc132.trans hk0
    have hk144 : s129 (181) = σ (181) := hc133.trans hk1
    have hk145 : s129 (182) = σ (182) := hc134.trans hk2
    have hk146 : s129 (183) = σ (183) := hc135.trans hk3
    have hk147 : s129 (184) = σ (184) := hc136.trans hk4
    refine ra_ifne rfl rfl (ra_in01 hz130) (fun h148 => ?_) (fun h148 => ?_)
    · have to9 := hz130o (by omega)
      rw [toN3] at to9
      rw [toN3] at hz130q
      obtain ⟨-, ht1, hKt, hlt, hut, he1, he1b⟩ := hz130q.resolve_right (fun q => by omega)
      have hR2 : x4RR r s129 := (x4RR_k hc132 ⟨by omega, by omega, (he137 21 (by decide) (by decide) (by decide) (by decide) (by decide) (by decide))⟩ hRs)
      exact ra_weak (by repeat' constructor) (l4_257_183 hpt hld hB hN hR s129 hF142 hk143 hk144 hk145 hk146 hk147 (fun a h15 h16 h17 h18 h19 h20 h21 => ((he137 a h15 h16 h17 h18 h19 h20).trans (hov a h15 h16 h17 h18 h19 h20 h21))) he139 (by have m_s129 := he140; omega) (by first | assumption | omega) (by rw [show ra_g s129 188 0 = ra_g s 188 0 from (he138 0 (by decide)), show ra_g s129 188 1 = ra_g s 188 1 from (he138 1 (by decide))]; exact hua) (by rw [show ra_g s129 188 0 = ra_g s 188 0 from (he138 0 (by decide)), show ra_g s129 188 1 = ra_g s 188 1 from (he138 1 (by decide))]; exact hta) (by have a := hz130o (by omega); rw [toN3] at a; have e := (he138 1 (by decide) : ra_g s129 188 1 = ra_g s 188 1); omega) (fun q => by have m_s129 := he140; have a := hz130o (by omega); omega) hR2 hKt (x4TR_k (he137 12 (by decide) (by decide) (by decide) (by decide) (by decide) (by decide)) he141 hBs) (he141.trans k7) (by rw [show ra_g s129 188 0 = ra_g s 188 0 from (he138 0 (by decide))]; exact hPA) (by rw [show ra_g s129 188 0 = ra_g s 188 0 from (he138 0 (by decide)), show ra_g s129 188 1 = ra_g s 188 1 from (he138 1 (by decide))]; exact hPB) (by rw [show ra_g s129 188 2 = ra_g s 188 2 from (he138 2 (by decide))]; exact hPC) (by rw [show ra_g s129 188 1 = ra_g s 188 1 from (he138 1 (by decide))]; exact ht1) hKs.2.2.2.2)
    · refine ra_iconst rfl ?_
      exact ra_ireturn rfl (ra_okB (Or.inl rfl)) ⟨⟨_, (Or.inl rfl), ⟨(fun q => absurd q (by decide)), (x4ro_t hz130q (by omega) rfl (fun x hx => x4pd_f (by omega) hPA hPB hPC hx))⟩, rfl⟩, ⟨hF142, hk144, hk145, hk146, hk147, (fun a h15 h16 h17 h18 h19 h20 h21 => ((he137 a h15 h16 h17 h18 h19 h20).trans (hov a h15 h16 h17 h18 h19 h20 h21))), (LD_k hk143 hld), he139, (by have m_s129 := he140; omega), (he141.trans k7)⟩⟩
theorem l4_257_155 {n : Nat} {f : Nat → Int32} {d : Nat}  {σ : ra_V} (hpt : 0 ≤ ra_g σ 179 18 ∧ ra_g σ 179 18 ≤ ra_g σ 179 17 ∧ ra_g σ 179 17 ≤ ra_g σ 179 12 ∧ ra_g σ 179 12 ≤ 500 ∧ 0 ≤ ra_g σ 179 19 ∧ ra_g σ 179 19 ≤ 999) (hld : LD σ) (hB : x4TR σ B bn) (hN : x4RTK B bn σ ta) (hR : x4RR r σ) : ∀ (s : ra_V) (hF : Fr (179) (189) σ s) (hk0 : s (180) = σ (180)) (hk1 : s (181) = σ (181)) (hk2 : s (182) = σ (182)) (hk3 : s (183) = σ (183)) (hk4 : s (184) = σ (184)) (hov : ∀ a, a ≠ 15 → a ≠ 16 → a ≠ 17 → a ≠ 18 → a ≠ 19 → a ≠ 20 → a ≠ 21 → ra_g s 179 a = ra_g σ 179 a) (hps : 0 ≤ ra_g s 179 18 ∧ ra_g s 179 18 ≤ ra_g s 179 17 ∧ ra_g s 179 17 ≤ ra_g s 179 12 ∧ ra_g s 179 12 ≤ 500 ∧ 0 ≤ ra_g s 179 19 ∧ ra_g s 179 19 ≤ 999) (hmo : ra_g σ 179 17 ≤ ra_g s 179 17) (h8 : ra_g σ 180 5 ≠ 8) (hua : US σ (ra_g s 188 0) (ra_g s 188 1)) (hta : ¬ TK σ (ra_g s 188 0) (ra_g s 188 1) (-1)) (h1 : 1 ≤ ra_g s 188 1 ∧ ra_g s 188 1 ≤ 999) (hRs : x4RR r s) (hKs : x4RTK B bn s (tx_a B bn (x4tx_n B bn (x4tx_n B bn (tx_e B bn ta))))) (hBs : x4TR s B bn) (k7 : s (187) = σ (187)) (hPA : x4PA B bn r ta (ra_g s 188 0)) (hPB : x4PB B bn r ta (ra_g s 188 0) (ra_g s 188 1)), ra_P (g_Gs n f) g_sh 0 (d + 4) g_m_X8_readPart 155 [some (.index (179)), none] [] s (fun r9 s => (∃ z : Int, (z = 0 ∨ z = 1) ∧ ((z = 1 → ra_g s 179 20 = 3 → ra_g σ 179 17 < ra_g s 179 17) ∧ x4ROC B bn s z (tx_part B bn r ta)) ∧ r9 = .inl (some (ra_I z))) ∧ Fr (179) (189) σ s ∧ s (181) = σ (181) ∧ s (182) = σ (182) ∧ s (183) = σ (183) ∧ s (184) = σ (184) ∧ (∀ a, a ≠ 15 → a ≠ 16 → a ≠ 17 → a ≠ 18 → a ≠ 19 → a ≠ 20 → a ≠ 21 → ra_g s 179 a = ra_g σ 179 a) ∧ LD s ∧ (0 ≤ ra_g s 179 18 ∧ ra_g s 179 18 ≤ ra_g s 179 17 ∧ ra_g s 179 17 ≤ ra_g s 179 12 ∧ ra_g s 179 12 ≤ 500 ∧ 0 ≤ ra_g s 179 19 ∧ ra_g s 179 19 ≤ 999) ∧ ra_g σ 179 17 ≤ ra_g s 179 17 ∧ s (187) = σ (187)) := by
    intro s hF hk0 hk1 hk2 hk3 hk4 hov hps hmo h8 hua hta h1 hRs hKs hBs k7 hPA hPB
    have hw0 := WF_a hld.1
    unfold WFa at hw0
    have hl5 := hld.2.2.1
    have hR0 := hR
    obtain ⟨⟨q0, q1, q2, q3, q4, q5⟩, q21, -, ⟨q15, q16⟩, qp⟩ := hR0
    have hN0 := hN
    obtain ⟨n1, n2, n3, -, n5, n6, n7⟩ := hN0
    have hRs0 := hRs
    obtain ⟨⟨r0, r1, r2, r3, r4, r5⟩, r21, -, ⟨r15, r16⟩, -⟩ := hRs0
    refine ra_load rfl rfl rfl rfl ?_
    refine ra_iconst rfl ?_
    refine ra_iconst rfl ?_
    refine ra_bipush rfl (by decide) ?_
    refine ra_cQPs (s4_255 (by first | omega | (unfold ra_in at *; omega)) (by first | omega | (unfold ra_in at *; omega)) (by first | omega | (unfold ra_in at *; omega)) hps (by first | assumption | rfl | omega) hBs hKs (by omega)) rfl (ct_255 rfl lk_8_246 (Or.inl rfl) sh_179 (Nat.le_of_ble_eq_true rfl)) (fun z109 s108 hz109 hz109p hs108 => ?_)
    have hz109o := hz109p.1
    have hz109q := hz109p.2
    obtain ⟨hf110, hc111, hc112, hc113, hc114, hc115, he116, he117, he118, he119, he120⟩ := hs108
    have hF121 := Fr_tr (lo := 179) (hi := 189) hF hf110 (by omega)
    have hk122 : s108 (180) = σ (180) := hc111.trans hk0
    have hk123 : s108 (181) = σ (181) := hc112.trans hk1
    have hk124 : s108 (182) = σ (182) := hc113.trans hk2
    have hk125 : s108 (183) = σ (183) := hc114.trans hk3
    have hk126 : s108 (184) = σ (184) := hc115.trans hk4
    refine ra_ifeq rfl rfl (ra_in01 hz109) (fun h127 => ?_) (fun h127 => ?_)
    · refine ra_iconst rfl ?_
      exact ra_ireturn rfl (ra_okB (Or.inl rfl)) ⟨⟨_, (Or.inl rfl), ⟨(fun q => absurd q (by decide)), (x4ro_t hz109q (by omega) rfl (fun x hx => x4pc_f (by omega) hPA hPB hx))⟩, rfl⟩, ⟨hF121, hk123, hk124, hk125, hk126, (fun a h15 h16 h17 h18 h19 h20 h21 => ((he116 a h15 h16 h17 h18 h19 h20).trans (hov a h15 h16 h17 h18 h19 h20 h21))), (LD_k hk122 hld), he118, (by have m_s108 := he119; omega), (he120.trans k7)⟩⟩
    · have to9 := hz109o (by omega)
      rw [toN2] at to9
      rw [toN2] at hz109q
      obtain ⟨-, ht1, hKt, hlt, hut, he1, he1b⟩ := hz109q.resolve_right (fun q => by omega)
      have hR2 : x4RR r s108 := (x4RR_k hc111 ⟨by omega, by omega, (he116 21 (by decide) (by decide) (by decide) (by decide) (by decide) (by decide))⟩ hRs)
      exact ra_weak (by repeat' constructor) (l4_257_166 hpt hld hB hN hR s108 hF121 hk122 hk123 hk124 hk125 hk126 (fun a h15 h16 h17 h18 h19 h20 h21 => ((he116 a h15 h16 h17 h18 h19 h20).trans (hov a h15 h16 h17 h18 h19 h20 h21))) he118 (by have m_s108 := he119; omega) (by first | assumption | omega) (by rw [show ra_g s108 188 0 = ra_g s 188 0 from (he117 0 (by decide)), show ra_g s108 188 1 = ra_g s 188 1 from (he117 1 (by decide))]; exact hua) (by rw [show ra_g s108 188 0 = ra_g s 188 0 from (he117 0 (by decide)), show ra_g s108 188 1 = ra_g s 188 1 from (he117 1 (by decide))]; exact hta) (by have e : ra_g s108 188 1 = ra_g s 188 1 := (he117 1 (by decide)); omega) hR2 hKt (x4TR_k (he116 12 (by decide) (by decide) (by decide) (by decide) (by decide) (by decide)) he120 hBs) (he120.trans k7) (by rw [show ra_g s108 188 0 = ra_g s 188 0 from (he117 0 (by decide))]; exact hPA) (by rw [show ra_g s108 188 0 = ra_g s 188 0 from (he117 0 (by decide)), show ra_g s108 188 1 = ra_g s 188 1 from (he117 1 (by decide))]; exact hPB) ht1)
theorem l4_257_143 {n : Nat} {f : Nat → Int32} {d : Nat}  {σ : ra_V} (hpt : 0 ≤ ra_g σ 179 18 ∧ ra_g σ 179 18 ≤ ra_g σ 179 17 ∧ ra_g σ 179 17 ≤ ra_g σ 179 12 ∧ ra_g σ 179 12 ≤ 500 ∧ 0 ≤ ra_g σ 179 19 ∧ ra_g σ 179 19 ≤ 999) (hld : LD σ) (hB : x4TR σ B bn) (hN : x4RTK B bn σ ta) (hR : x4RR r σ) : ∀ (s : ra_V) (hF : Fr (179) (189) σ s) (hk0 : s (180) = σ (180)) (hk1 : s (181) = σ (181)) (hk2 : s (182) = σ (182)) (hk3 : s (183) = σ (183)) (hk4 : s (184) = σ (184)) (hov : ∀ a, a ≠ 15 → a ≠ 16 → a ≠ 17 → a ≠ 18 → a ≠ 19 → a ≠ 20 → a ≠ 21 → ra_g s 179 a = ra_g σ 179 a) (hps : 0 ≤ ra_g s 179 18 ∧ ra_g s 179 18 ≤ ra_g s 179 17 ∧ ra_g s 179 17 ≤ ra_g s 179 12 ∧ ra_g s 179 12 ≤ 500 ∧ 0 ≤ ra_g s 179 19 ∧ ra_g s 179 19 ≤ 999) (hmo : ra_g σ 179 17 ≤ ra_g s 179 17) (h8 : ra_g σ 180 5 ≠ 8) (hu : US σ (ra_g s 188 0) (ra_g s 179 19)) (htk : ¬ TK σ (ra_g s 188 0) (ra_g s 179 19) (-1)) (hRs : x4RR r s) (hKs : x4RTK B bn s (tx_a B bn (x4tx_n B bn (tx_e B bn ta)))) (hBs : x4TR s B bn) (k7 : s (187) = σ (187)) (hPA : x4PA B bn r ta (ra_g s 188 0)) (hPB : x4PB B bn r ta (ra_g s 188 0) (ra_g s 179 19)), ra_P (g_Gs n f) g_sh 0 (d + 4) g_m_X8_readPart 143 [some (.index (179)), none] [] s (fun r9 s => (∃ z : Int, (z = 0 ∨ z = 1) ∧ ((z = 1 → ra_g s 179 20 = 3 → ra_g σ 179 17 < ra_g s 179 17) ∧ x4ROC B bn s z (tx_part B bn r ta)) ∧ r9 = .inl (some (ra_I z))) ∧ Fr (179) (189) σ s ∧ s (181) = σ (181) ∧ s (182) = σ (182) ∧ s (183) = σ (183) ∧ s (184) = σ (184) ∧ (∀ a, a ≠ 15 → a ≠ 16 → a ≠ 17 → a ≠ 18 → a ≠ 19 → a ≠ 20 → a ≠ 21 → ra_g s 179 a = ra_g σ 179 a) ∧ LD s ∧ (0 ≤ ra_g s 179 18 ∧ ra_g s 179 18 ≤ ra_g s 179 17 ∧ ra_g s 179 17 ≤ ra_g s 179 12 ∧ ra_g s 179 12 ≤ 500 ∧ 0 ≤ ra_g s 179 19 ∧ ra_g s 179 19 ≤ 999) ∧ ra_g σ 179 17 ≤ ra_g s 179 17 ∧ s (187) = σ (187)) := by
    intro s hF hk0 hk1 hk2 hk3 hk4 hov hps hmo h8 hu htk hRs hKs hBs k7 hPA hPB
    have hw0 := WF_a hld.1
    unfold WFa at hw0
    have hl5 := hld.2.2.1
    have hR0 := hR
    obtain ⟨⟨q0, q1, q2, q3, q4, q5⟩, q21, -, ⟨q15, q16⟩, qp⟩ := hR0
    have hN0 := hN
    obtain ⟨n1, n2, n3, -, n5, n6, n7⟩ := hN0
    have hRs0 := hRs
    obtain ⟨⟨r0, r1, r2, r3, r4, r5⟩, r21, -, ⟨r15, r16⟩, -⟩ := hRs0
    refine ra_load rfl rfl rfl rfl ?_
    refine ra_iconst rfl ?_
    refine ra_iconst rfl ?_
    refine ra_sipush rfl (by decide) ?_
    refine ra_cQPs (s4_255 (by first | omega | (unfold ra_in at *; omega)) (by first | omega | (unfold ra_in at *; omega)) (by first | omega | (unfold ra_in at *; omega)) hps (by first | assumption | rfl | omega) hBs hKs (by omega)) rfl (ct_255 rfl lk_8_246 (Or.inl rfl) sh_179 (Nat.le_of_ble_eq_true rfl)) (fun z89 s88 hz89 hz89p hs88 => ?_)
    have hz89o := hz89p.1
    have hz89q := hz89p.2
    obtain ⟨hf90, hc91, hc92, hc93, hc94, hc95, he96, he97, he98, he99, he100⟩ := hs88
    have hF101 := Fr_tr (lo := 179) (hi := 189) hF hf90 (by omega)
    have hk102 : s88 (180) = σ (180) := hc91.trans hk0
    have hk103 : s88 (181) = σ (181) := hc92.trans hk1
    have hk104 : s88 (182) = σ (182) := hc93.trans hk2
    have hk105 : s88 (183) = σ (183) := hc94.trans hk3
    have hk106 : s88 (184) = σ (184) := hc95.trans hk4
    refine ra_ifeq rfl rfl (ra_in01 hz89) (fun h107 => ?_) (fun h107 => ?_)
    · refine ra_iconst rfl ?_
      exact ra_ireturn rfl (ra_okB (Or.inl rfl)) ⟨⟨_, (Or.inl rfl), ⟨(fun q => absurd q (by decide)), (x4ro_t hz89q (by omega) rfl (fun x hx => x4pb_f hRs (WF_a (LD_k hk0 hld).1) (by omega) hPA hx))⟩, rfl⟩, ⟨hF101, hk103, hk104, hk105, hk106, (fun a h15 h16 h17 h18 h19 h20 h21 => ((he96 a h15 h16 h17 h18 h19 h20).trans (hov a h15 h16 h17 h18 h19 h20 h21))), (LD_k hk102 hld), he98, (by have m_s88 := he99; omega), (he100.trans k7)⟩⟩
    · have to9 := hz89o (by omega)
      rw [toN1] at to9
      rw [toN1] at hz89q
      obtain ⟨-, ht1, hKt, hlt, hut, he1, he1b⟩ := hz89q.resolve_right (fun q => by omega)
      have hR2 : x4RR r s88 := (x4RR_k hc91 ⟨by omega, by omega, (he96 21 (by decide) (by decide) (by decide) (by decide) (by decide) (by decide))⟩ hRs)
      exact ra_weak (by repeat' constructor) (l4_257_155 hpt hld hB hN hR s88 hF101 hk102 hk103 hk104 hk105 hk106 (fun a h15 h16 h17 h18 h19 h20 h21 => ((he96 a h15 h16 h17 h18 h19 h20).trans (hov a h15 h16 h17 h18 h19 h20 h21))) he98 (by have m_s88 := he99; omega) (by first | assumption | omega) (by have hr1 := hz89o (by omega); rw [toN1] at hr1; have hr1 : (1 ≤ ra_g s88 188 1 ∧ ra_g s88 188 1 ≤ 999) ∧ ra_g s88 188 1 = ra_g s 179 19 := ⟨by omega, by omega⟩; have e0 : ra_g s88 188 0 = ra_g s 188 0 := (he97 0 (by decide)); rw [show ra_g s88 188 0 = ra_g s 188 0 by omega, show ra_g s88 188 1 = ra_g s 179 19 by omega]; exact hu) (by have hr1 := hz89o (by omega); rw [toN1] at hr1; have hr1 : (1 ≤ ra_g s88 188 1 ∧ ra_g s88 188 1 ≤ 999) ∧ ra_g s88 188 1 = ra_g s 179 19 := ⟨by omega, by omega⟩; have e0 : ra_g s88 188 0 = ra_g s 188 0 := (he97 0 (by decide)); rw [show ra_g s88 188 0 = ra_g s 188 0 by omega, show ra_g s88 188 1 = ra_g s 179 19 by omega]; exact htk) (by have hr1 := hz89o (by omega); rw [toN1] at hr1; have hr1 : (1 ≤ ra_g s88 188 1 ∧ ra_g s88 188 1 ≤ 999) ∧ ra_g s88 188 1 = ra_g s 179 19 := ⟨by omega, by omega⟩; have e0 : ra_g s88 188 0 = ra_g s 188 0 := (he97 0 (by decide)); omega) hR2 hKt (x4TR_k (he96 12 (by decide) (by decide) (by decide) (by decide) (by decide) (by decide)) he100 hBs) (he100.trans k7) (by rw [show ra_g s88 188 0 = ra_g s 188 0 from (he97 0 (by decide))]; exact hPA) (by rw [show ra_g s88 188 0 = ra_g s 188 0 from (he97 0 (by decide)), show ra_g s88 188 1 = ra_g s 179 19 by omega]; exact hPB))
theorem l4_257_92 {n : Nat} {f : Nat → Int32} {d : Nat}  {σ : ra_V} (hpt : 0 ≤ ra_g σ 179 18 ∧ ra_g σ 179 18 ≤ ra_g σ 179 17 ∧ ra_g σ 179 17 ≤ ra_g σ 179 12 ∧ ra_g σ 179 12 ≤ 500 ∧ 0 ≤ ra_g σ 179 19 ∧ ra_g σ 179 19 ≤ 999) (hld : LD σ) (hB : x4TR σ B bn) (hN : x4RTK B bn σ ta) (hR : x4RR r σ) : ∀ (s : ra_V) (hF : Fr (179) (189) σ s) (hk0 : s (180) = σ (180)) (hk1 : s (181) = σ (181)) (hk2 : s (182) = σ (182)) (hk3 : s (183) = σ (183)) (hk4 : s (184) = σ (184)) (hov : ∀ a, a ≠ 15 → a ≠ 16 → a ≠ 17 → a ≠ 18 → a ≠ 19 → a ≠ 20 → a ≠ 21 → ra_g s 179 a = ra_g σ 179 a) (hps : 0 ≤ ra_g s 179 18 ∧ ra_g s 179 18 ≤ ra_g s 179 17 ∧ ra_g s 179 17 ≤ ra_g s 179 12 ∧ ra_g s 179 12 ≤ 500 ∧ 0 ≤ ra_g s 179 19 ∧ ra_g s 179 19 ≤ 999) (hmo : ra_g σ 179 17 ≤ ra_g s 179 17) (h8 : ra_g σ 180 5 ≠ 8) (hr : 0 ≤ ra_g s 188 0 ∧ ra_g s 188 0 ≤ 999) (hv : 1 ≤ ra_g s 179 19 ∧ ra_g s 179 19 ≤ 999) (hRs : x4RR r s) (hKs : x4RTK B bn s (tx_a B bn (x4tx_n B bn (tx_e B bn ta)))) (hBs : x4TR s B bn) (k7 : s (187) = σ (187)) (hPA : x4PA B bn r ta (ra_g s 188 0)) (hN2 : tx_rd B bn (x4tx_n B bn (tx_e B bn ta)) 1 999 = .inr (ra_g s 179 19, x4tx_n B bn (x4tx_n B bn (tx_e B bn ta)))), ra_P (g_Gs n f) g_sh 0 (d + 4) g_m_X8_readPart 92 [some (.index (179)), none] [] s (fun r9 s => (∃ z : Int, (z = 0 ∨ z = 1) ∧ ((z = 1 → ra_g s 179 20 = 3 → ra_g σ 179 17 < ra_g s 179 17) ∧ x4ROC B bn s z (tx_part B bn r ta)) ∧ r9 = .inl (some (ra_I z))) ∧ Fr (179) (189) σ s ∧ s (181) = σ (181) ∧ s (182) = σ (182) ∧ s (183) = σ (183) ∧ s (184) = σ (184) ∧ (∀ a, a ≠ 15 → a ≠ 16 → a ≠ 17 → a ≠ 18 → a ≠ 19 → a ≠ 20 → a ≠ 21 → ra_g s 179 a = ra_g σ 179 a) ∧ LD s ∧ (0 ≤ ra_g s 179 18 ∧ ra_g s 179 18 ≤ ra_g s 179 17 ∧ ra_g s 179 17 ≤ ra_g s 179 12 ∧ ra_g s 179 12 ≤ 500 ∧ 0 ≤ ra_g s 179 19 ∧ ra_g s 179 19 ≤ 999) ∧ ra_g σ 179 17 ≤ ra_g s 179 17 ∧ s (187) = σ (187)) := by
    intro s hF hk0 hk1 hk2 hk3 hk4 hov hps hmo h8 hr hv hRs hKs hBs k7 hPA hN2
    have hw0 := WF_a hld.1
    unfold WFa at hw0
    have hl5 := hld.2.2.1
    have hR0 := hR
    obtain ⟨⟨q0, q1, q2, q3, q4, q5⟩, q21, -, ⟨q15, q16⟩, qp⟩ := hR0
    have hN0 := hN
    obtain ⟨n1, n2, n3, -, n5, n6, n7⟩ := hN0
    have hRs0 := hRs
    obtain ⟨⟨r0, r1, r2, r3, r4, r5⟩, r21, -, ⟨r15, r16⟩, -⟩ := hRs0
    refine ra_load rfl rfl rfl rfl ?_
    refine ra_load rfl rfl rfl rfl ?_
    refine ra_getR rfl lk_8_38 (Nat.zero_le _) sh_179 rfl ?_
    refine ra_iconst rfl ?_
    refine ra_ialoadJ (j := 0) rfl sh_188 rfl (by decide) rfl (by decide) ?_
    have hr78 : ra_in (ra_g s (188) 0) := (ra_in_g _ _ _)
    refine ra_i2l rfl hr78 ?_
    refine ra_load rfl rfl rfl rfl ?_
    refine ra_getI rfl lk_8_201 (Nat.zero_le _) sh_179 rfl ?_
    have hr79 : ra_in (ra_g s (179) 19) := (ra_in_g _ _ _)
    refine ra_i2l rfl hr79 ?_
    refine ra_cQPp (sp_211 hr78 hr79 (WF_a (LD_k hk0 hld).1)) rfl (ct_211 rfl lk_8_103 (Or.inl rfl) sh_179 (Nat.le_of_ble_eq_true rfl)) (fun z81 hz81 hz81p => ?_)
    refine ra_ifne rfl rfl (ra_in01 hz81) (fun h82 => ?_) (fun h82 => ?_)
    · refine ra_load rfl rfl rfl rfl ?_
      refine ra_load rfl rfl rfl rfl ?_
      refine ra_getR rfl lk_8_38 (Nat.zero_le _) sh_179 rfl ?_
      refine ra_iconst rfl ?_
      refine ra_ialoadJ (j := 0) rfl sh_188 rfl (by decide) rfl (by decide) ?_
      have hr83 : ra_in (ra_g s (188) 0) := (ra_in_g _ _ _)
      refine ra_i2l rfl hr83 ?_
      refine ra_load rfl rfl rfl rfl ?_
      refine ra_getI rfl lk_8_201 (Nat.zero_le _) sh_179 rfl ?_
      have hr84 : ra_in (ra_g s (179) 19) := (ra_in_g _ _ _)
      refine ra_i2l rfl hr84 ?_
      refine ra_iconst rfl ?_
      refine ra_cQPp (sp_213 hr83 hr84 (by first | omega | (unfold ra_in at *; omega))) rfl (ct_213 rfl lk_8_107 (Or.inl rfl) sh_179 (Nat.le_of_ble_eq_true rfl)) (fun z86 hz86 hz86p => ?_)
      refine ra_ifeq rfl rfl (ra_in01 hz86) (fun h87 => ?_) (fun h87 => ?_)
      · exact ra_weak (by repeat' constructor) (l4_257_143 hpt hld hB hN hR s hF hk0 hk1 hk2 hk3 hk4 (fun a h15 h16 h17 h18 h19 h20 h21 => (hov a h15 h16 h17 h18 h19 h20 h21)) hps (by omega) (by first | assumption | omega) (US_k hk0 (hz81p.mp (by omega))) (fun q => absurd (hz86p.mpr (TK_k hk0.symm q)) (by omega)) hRs hKs hBs k7 hPA (x4pb_1 hRs (LD_k hk0 hld) hN2 (hz81p.mp (by omega)) (fun q => absurd (hz86p.mpr q) (by omega))))
      · refine ra_load rfl rfl rfl rfl ?_
        refine ra_iconst rfl ?_
        refine ra_cQP (s4_252 (by first | omega | (unfold ra_in at *; omega))) rfl (ct_252 rfl lk_8_233 (Or.inl rfl) sh_179 (Nat.le_of_ble_eq_true rfl)) (fun z162 s161 hz162 hz162p hs161 => ?_)
        obtain ⟨hf163, he164, he165⟩ := hs161
        have hF166 := Fr_tr (lo := 179) (hi := 189) hF hf163 (by omega)
        have hk167 : s161 (180) = σ (180) := (hf163 (180) (by omega)).trans hk0
        have hk168 : s161 (181) = σ (181) := (hf163 (181) (by omega)).trans hk1
        have hk169 : s161 (182) = σ (182) := (hf163 (182) (by omega)).trans hk2
        have hk170 : s161 (183) = σ (183) := (hf163 (183) (by omega)).trans hk3
        have hk171 : s161 (184) = σ (184) := (hf163 (184) (by omega)).trans hk4
        exact ra_ireturn rfl (ra_okB hz162) ⟨⟨_, hz162, ⟨(fun q => absurd q (by omega)), (x4ro_f (c := 4) (a := tx_a B bn (x4tx_n B bn (tx_e B bn ta))) hz162p (x4pb_t hRs (LD_k hk0 hld) (by omega) hPA hN2 (hz81p.mp (by omega)) (hz86p.mp (by omega))) (by have q := he165 hRs.2.2.2.1.1; omega) (by have q := he165 hRs.2.2.2.1.1; have q9 := hKs.1; omega))⟩, rfl⟩, ⟨hF166, hk168, hk169, hk170, hk171, (fun a h15 h16 h17 h18 h19 h20 h21 => ((he164 a h15 h16).trans (hov a h15 h16 h17 h18 h19 h20 h21))), (LD_k hk167 hld), (pt_e (he164 12 (by decide) (by decide)) (he164 17 (by decide) (by decide)) (he164 18 (by decide) (by decide)) (he164 19 (by decide) (by decide)) hps), (by have m_s161 : ra_g s161 179 17 = ra_g s 179 17 := (he164 17 (by decide) (by decide)); have k_s161 : ra_g s161 179 20 = ra_g s 179 20 := (he164 20 (by decide) (by decide)); omega), ((hf163 (187) (by omega)).trans k7)⟩⟩
    · refine ra_load rfl rfl rfl rfl ?_
      refine ra_iconst rfl ?_
      refine ra_cQP (s4_252 (by first | omega | (unfold ra_in at *; omega))) rfl (ct_252 rfl lk_8_233 (Or.inl rfl) sh_179 (Nat.le_of_ble_eq_true rfl)) (fun z173 s172 hz173 hz173p hs172 => ?_)
      obtain ⟨hf174, he175, he176⟩ := hs172
      have hF177 := Fr_tr (lo := 179) (hi := 189) hF hf174 (by omega)
      have hk178 : s172 (180) = σ (180) := (hf174 (180) (by omega)).trans hk0
      have hk179 : s172 (181) = σ (181) := (hf174 (181) (by omega)).trans hk1
      have hk180 : s172 (182) = σ (182) := (hf174 (182) (by omega)).trans hk2
      have hk181 : s172 (183) = σ (183) := (hf174 (183) (by omega)).trans hk3
      have hk182 : s172 (184) = σ (184) := (hf174 (184) (by omega)).trans hk4
      exact ra_ireturn rfl (ra_okB hz173) ⟨⟨_, hz173, ⟨(fun q => absurd q (by omega)), (x4ro_f (c := 2) (a := tx_a B bn (x4tx_n B bn (tx_e B bn ta))) hz173p (x4pb_n hRs (by omega) hPA hN2 (fun q => absurd (hz81p.mpr q) (by omega))) (by have q := he176 hRs.2.2.2.1.1; omega) (by have q := he176 hRs.2.2.2.1.1; have q9 := hKs.1; omega))⟩, rfl⟩, ⟨hF177, hk179, hk180, hk181, hk182, (fun a h15 h16 h17 h18 h19 h20 h21 => ((he175 a h15 h16).trans (hov a h15 h16 h17 h18 h19 h20 h21))), (LD_k hk178 hld), (pt_e (he175 12 (by decide) (by decide)) (he175 17 (by decide) (by decide)) (he175 18 (by decide) (by decide)) (he175 19 (by decide) (by decide)) hps), (by have m_s172 : ra_g s172 179 17 = ra_g s 179 17 := (he175 17 (by decide) (by decide)); have k_s172 : ra_g s172 179 20 = ra_g s 179 20 := (he175 20 (by decide) (by decide)); omega), ((hf174 (187) (by omega)).trans k7)⟩⟩
theorem l4_257_67 {n : Nat} {f : Nat → Int32} {d : Nat}  {σ : ra_V} (hpt : 0 ≤ ra_g σ 179 18 ∧ ra_g σ 179 18 ≤ ra_g σ 179 17 ∧ ra_g σ 179 17 ≤ ra_g σ 179 12 ∧ ra_g σ 179 12 ≤ 500 ∧ 0 ≤ ra_g σ 179 19 ∧ ra_g σ 179 19 ≤ 999) (hld : LD σ) (hB : x4TR σ B bn) (hN : x4RTK B bn σ ta) (hR : x4RR r σ) : ∀ (s : ra_V) (hF : Fr (179) (189) σ s) (hk0 : s (180) = σ (180)) (hk1 : s (181) = σ (181)) (hk2 : s (182) = σ (182)) (hk3 : s (183) = σ (183)) (hk4 : s (184) = σ (184)) (hov : ∀ a, a ≠ 15 → a ≠ 16 → a ≠ 17 → a ≠ 18 → a ≠ 19 → a ≠ 20 → a ≠ 21 → ra_g s 179 a = ra_g σ 179 a) (hps : 0 ≤ ra_g s 179 18 ∧ ra_g s 179 18 ≤ ra_g s 179 17 ∧ ra_g s 179 17 ≤ ra_g s 179 12 ∧ ra_g s 179 12 ≤ 500 ∧ 0 ≤ ra_g s 179 19 ∧ ra_g s 179 19 ≤ 999) (hmo : ra_g σ 179 17 ≤ ra_g s 179 17) (h8 : ra_g σ 180 5 ≠ 8) (hRs : x4RR r s) (hKs : x4RTK B bn s (tx_a B bn (tx_e B bn ta))) (hBs : x4TR s B bn) (k7 : s (187) = σ (187)) (hPA : x4PA B bn r ta (ra_g s 179 19)), ra_P (g_Gs n f) g_sh 0 (d + 4) g_m_X8_readPart 67 [some (.index (179)), none] [] s (fun r9 s => (∃ z : Int, (z = 0 ∨ z = 1) ∧ ((z = 1 → ra_g s 179 20 = 3 → ra_g σ 179 17 < ra_g s 179 17) ∧ x4ROC B bn s z (tx_part B bn r ta)) ∧ r9 = .inl (some (ra_I z))) ∧ Fr (179) (189) σ s ∧ s (181) = σ (181) ∧ s (182) = σ (182) ∧ s (183) = σ (183) ∧ s (184) = σ (184) ∧ (∀ a, a ≠ 15 → a ≠ 16 → a ≠ 17 → a ≠ 18 → a ≠ 19 → a ≠ 20 → a ≠ 21 → ra_g s 179 a = ra_g σ 179 a) ∧ LD s ∧ (0 ≤ ra_g s 179 18 ∧ ra_g s 179 18 ≤ ra_g s 179 17 ∧ ra_g s 179 17 ≤ ra_g s 179 12 ∧ ra_g s 179 12 ≤ 500 ∧ 0 ≤ ra_g s 179 19 ∧ ra_g s 179 19 ≤ 999) ∧ ra_g σ 179 17 ≤ ra_g s 179 17 ∧ s (187) = σ (187)) := by
    intro s hF hk0 hk1 hk2 hk3 hk4 hov hps hmo h8 hRs hKs hBs k7 hPA
    have hw0 := WF_a hld.1
    unfold WFa at hw0
    have hl5 := hld.2.2.1
    have hR0 := hR
    obtain ⟨⟨q0, q1, q2, q3, q4, q5⟩, q21, -, ⟨q15, q16⟩, qp⟩ := hR0
    have hN0 := hN
    obtain ⟨n1, n2, n3, -, n5, n6, n7⟩ := hN0
    have hRs0 := hRs
    obtain ⟨⟨r0, r1, r2, r3, r4, r5⟩, r21, -, ⟨r15, r16⟩, -⟩ := hRs0
    refine ra_load rfl rfl rfl rfl ?_
    refine ra_iconst rfl ?_
    refine ra_iconst rfl ?_
    refine ra_sipush rfl (by decide) ?_
    refine ra_cQPs (s4_255 (by first | omega | (unfold ra_in at *; omega)) (by first | omega | (unfold ra_in at *; omega)) (by first | omega | (unfold ra_in at *; omega)) hps (by first | assumption | rfl | omega) hBs hKs (by omega)) rfl (ct_255 rfl lk_8_246 (Or.inl rfl) sh_179 (Nat.le_of_ble_eq_true rfl)) (fun z48 s47 hz48 hz48p hs47 => ?_)
    have hz48o := hz48p.1
    have hz48q := hz48p.2
    obtain ⟨hf49, hc50, hc51, hc52, hc53, hc54, he55, he56, he57, he58, he59⟩ := hs47
    have hF60 := Fr_tr (lo := 179) (hi := 189) hF hf49 (by omega)
    have hk61 : s47 (180) = σ (180) := hc50.trans hk0
    have hk62 : s47 (181) = σ (181) := hc51.trans hk1
    have hk63 : s47 (182) = σ (182) := hc52.trans hk2
    have hk64 : s47 (183) = σ (183) := hc53.trans hk3
    have hk65 : s47 (184) = σ (184) := hc54.trans hk4
    refine ra_ifeq rfl rfl (ra_in01 hz48) (fun h66 => ?_) (fun h66 => ?_)
    · refine ra_iconst rfl ?_
      exact ra_ireturn rfl (ra_okB (Or.inl rfl)) ⟨⟨_, (Or.inl rfl), ⟨(fun q => absurd q (by decide)), (x4ro_t hz48q (by omega) rfl (fun x hx => x4pa_f hRs (WF_a (LD_k hk0 hld).1) (by omega) hx))⟩, rfl⟩, ⟨hF60, hk62, hk63, hk64, hk65, (fun a h15 h16 h17 h18 h19 h20 h21 => ((he55 a h15 h16 h17 h18 h19 h20).trans (hov a h15 h16 h17 h18 h19 h20 h21))), (LD_k hk61 hld), he57, (by have m_s47 := he58; omega), (he59.trans k7)⟩⟩
    · have hr0 := hz48o (by omega)
      rw [toN0] at hr0
      rw [toN0] at hz48q
      obtain ⟨-, ht1, hKt, hlt, hut, he1, he1b⟩ := hz48q.resolve_right (fun q => by omega)
      refine ra_load rfl rfl rfl rfl ?_
      refine ra_iconst rfl ?_
      refine ra_sipush rfl (by decide) ?_
      refine ra_cQPs (s4_254 (by first | omega | (unfold ra_in at *; omega)) (by first | omega | (unfold ra_in at *; omega)) (by have q := he57; omega) (x4RTK_k rfl rfl rfl rfl hKt) (by omega)) rfl (ct_254 rfl lk_8_236 (Or.inl rfl) sh_179 (Nat.le_of_ble_eq_true rfl)) (fun z68 s67 hz68 hz68p hs67 => ?_)
      have hz68o := hz68p.1
      have hz68q := hz68p.2
      obtain ⟨hf69, he70⟩ := hs67
      have hF71 := Fr_tr (lo := 179) (hi := 189) hF60 hf69 (by omega)
      have hk72 : s67 (180) = σ (180) := (hf69 (180) (by omega)).trans hk61
      have hk73 : s67 (181) = σ (181) := (hf69 (181) (by omega)).trans hk62
      have hk74 : s67 (182) = σ (182) := (hf69 (182) (by omega)).trans hk63
      have hk75 : s67 (183) = σ (183) := (hf69 (183) (by omega)).trans hk64
      have hk76 : s67 (184) = σ (184) := (hf69 (184) (by omega)).trans hk65
      refine ra_ifne rfl rfl (ra_in01 hz68) (fun h77 => ?_) (fun h77 => ?_)
      · obtain ⟨-, hr2, hl2, hu2, he2, he2b⟩ := hz68q.resolve_right (fun q => by omega)
        have hv19 : ra_g s67 179 19 = ra_g s47 179 19 := (he70 19 (by decide) (by decide))
        have e80 : ra_g s67 188 0 = ra_g s47 188 0 := ra_gk (hf69 188 (by omega))
        rw [← hv19] at hr2
        exact ra_weak (by repeat' constructor) (l4_257_92 hpt hld hB hN hR s67 hF71 hk72 hk73 hk74 hk75 hk76 (fun a h15 h16 h17 h18 h19 h20 h21 => ((he70 a h15 h16).trans ((he55 a h15 h16 h17 h18 h19 h20).trans (hov a h15 h16 h17 h18 h19 h20 h21)))) (pt_e (he70 12 (by decide) (by decide)) (he70 17 (by decide) (by decide)) (he70 18 (by decide) (by decide)) (he70 19 (by decide) (by decide)) he57) (by have m_s47 := he58; have m_s67 : ra_g s67 179 17 = ra_g s47 179 17 := (he70 17 (by decide) (by decide)); have k_s67 : ra_g s67 179 20 = ra_g s47 179 20 := (he70 20 (by decide) (by decide)); omega) (by first | assumption | omega) (by have e := (ra_gk (hf69 188 (by omega)) : ra_g s67 188 0 = ra_g s47 188 0); omega) (by have e := (he70 19 (by decide) (by decide)); have a := hz68o (by omega); omega) (x4RR_k ((hf69 (180) (by omega)).trans hc50) ⟨by omega, by omega, ((he70 21 (by decide) (by decide)).trans (he55 21 (by decide) (by decide) (by decide) (by decide) (by decide) (by decide)))⟩ hRs) (x4RTK_k (he70 17 (by decide) (by decide)) (he70 18 (by decide) (by decide)) (he70 19 (by decide) (by decide)) (he70 20 (by decide) (by decide)) hKt) (x4TR_k ((he70 12 (by decide) (by decide)).trans (he55 12 (by decide) (by decide) (by decide) (by decide) (by decide) (by decide))) ((hf69 (187) (by omega)).trans he59) hBs) (((hf69 (187) (by omega)).trans he59).trans k7) (by rw [show ra_g s67 188 0 = ra_g s 179 19 by omega]; exact hPA) hr2)
      · refine ra_iconst rfl ?_
        exact ra_ireturn rfl (ra_okB (Or.inl rfl)) ⟨⟨_, (Or.inl rfl), ⟨(fun q => absurd q (by decide)), (x4ro_n hz68q (by omega) rfl (fun x hx => x4pb_f hRs (WF_a (LD_k hk0 hld).1) (by omega) hPA hx))⟩, rfl⟩, ⟨hF71, hk73, hk74, hk75, hk76, (fun a h15 h16 h17 h18 h19 h20 h21 => ((he70 a h15 h16).trans ((he55 a h15 h16 h17 h18 h19 h20).trans (hov a h15 h16 h17 h18 h19 h20 h21)))), (LD_k hk72 hld), (pt_e (he70 12 (by decide) (by decide)) (he70 17 (by decide) (by decide)) (he70 18 (by decide) (by decide)) (he70 19 (by decide) (by decide)) he57), (by have m_s47 := he58; have m_s67 : ra_g s67 179 17 = ra_g s47 179 17 := (he70 17 (by decide) (by decide)); have k_s67 : ra_g s67 179 20 = ra_g s47 179 20 := (he70 20 (by decide) (by decide)); omega), (((hf69 (187) (by omega)).trans he59).trans k7)⟩⟩
theorem s4_257 {n : Nat} {f : Nat → Int32} {d : Nat}  {σ : ra_V} (hpt : 0 ≤ ra_g σ 179 18 ∧ ra_g σ 179 18 ≤ ra_g σ 179 17 ∧ ra_g σ 179 17 ≤ ra_g σ 179 12 ∧ ra_g σ 179 12 ≤ 500 ∧ 0 ≤ ra_g σ 179 19 ∧ ra_g σ 179 19 ≤ 999) (hld : LD σ) (hB : x4TR σ B bn) (hN : x4RTK B bn σ ta) (hR : x4RR r σ) : ra_C (g_Gs n f) g_sh 0 (d + 5) 257 [.index (179)] σ (fun r9 s => (∃ z : Int, (z = 0 ∨ z = 1) ∧ ((z = 1 → ra_g s 179 20 = 3 → ra_g σ 179 17 < ra_g s 179 17) ∧ x4ROC B bn s z (tx_part B bn r ta)) ∧ r9 = .inl (some (ra_I z))) ∧ Fr (179) (189) σ s ∧ s (181) = σ (181) ∧ s (182) = σ (182) ∧ s (183) = σ (183) ∧ s (184) = σ (184) ∧ (∀ a, a ≠ 15 → a ≠ 16 → a ≠ 17 → a ≠ 18 → a ≠ 19 → a ≠ 20 → a ≠ 21 → ra_g s 179 a = ra_g σ 179 a) ∧ LD s ∧ (0 ≤ ra_g s 179 18 ∧ ra_g s 179 18 ≤ ra_g s 179 17 ∧ ra_g s 179 17 ≤ ra_g s 179 12 ∧ ra_g s 179 12 ≤ 500 ∧ 0 ≤ ra_g s 179 19 ∧ ra_g s 179 19 ≤ 999) ∧ ra_g σ 179 17 ≤ ra_g s 179 17 ∧ s (187) = σ (187)) := by
  refine ra_enter (nn := 1) mt_257 rfl (Nat.le_of_ble_eq_true rfl) rfl (fun h => absurd h (by decide +kernel)) ?_
  have hw0 := WF_a hld.1
  unfold WFa at hw0
  have hl5 := hld.2.2.1
  have hR0 := hR
  obtain ⟨⟨q0, q1, q2, q3, q4, q5⟩, q21, -, ⟨q15, q16⟩, qp⟩ := hR0
  have hN0 := hN
  obtain ⟨n1, n2, n3, -, n5, n6, n7⟩ := hN0
  refine ra_load rfl rfl rfl rfl ?_
  refine ra_getR rfl lk_8_7 (Nat.zero_le _) sh_179 rfl ?_
  refine ra_iconst rfl ?_
  refine ra_ialoadJ (j := 5) rfl sh_180 rfl (by decide) rfl (by decide) ?_
  have hr1 : ra_in (ra_g σ (180) 5) := (ra_in_g _ _ _)
  refine ra_bipush rfl (by decide) ?_
  refine ra_icne rfl rfl hr1 (by first | omega | (unfold ra_in at *; omega)) (fun h2 => ?_) (fun h2 => ?_)
  · refine ra_load rfl rfl rfl rfl ?_
    refine ra_cV (s4_250 (by have q := hpt; omega) hB (show ra_g σ 179 17 = ((tx_e B bn ta : Nat) : Int) from n2) (by omega)) rfl (ct_250 rfl lk_8_240 (Or.inl rfl) sh_179 (Nat.le_of_ble_eq_true rfl)) (fun s3 hs3 => ?_)
    obtain ⟨hf4, he5, he6, he7, he8⟩ := hs3
    have hF9 := Fr_tr (lo := 179) (hi := 189) Fr_rf hf4 (by omega)
    have hk10 : s3 (180) = σ (180) := (hf4 (180) (by omega))
    have hk11 : s3 (181) = σ (181) := (hf4 (181) (by omega))
    have hk12 : s3 (182) = σ (182) := (hf4 (182) (by omega))
    have hk13 : s3 (183) = σ (183) := (hf4 (183) (by omega))
    have hk14 : s3 (184) = σ (184) := (hf4 (184) (by omega))
    have hk15 : s3 (187) = σ (187) := (hf4 (187) (by omega))
    refine ra_load rfl rfl rfl rfl ?_
    refine ra_iconst rfl ?_
    refine ra_sipush rfl (by decide) ?_
    refine ra_cQPs (s4_254 (by first | omega | (unfold ra_in at *; omega)) (by first | omega | (unfold ra_in at *; omega)) (by have q := he6; omega) he8 (((he5 15 (by decide) (by decide) (by decide) (by decide))).trans q15)) rfl (ct_254 rfl lk_8_236 (Or.inl rfl) sh_179 (Nat.le_of_ble_eq_true rfl)) (fun z17 s16 hz17 hz17p hs16 => ?_)
    have hz17o := hz17p.1
    have hz17q := hz17p.2
    obtain ⟨hf18, he19⟩ := hs16
    have hF20 := Fr_tr (lo := 179) (hi := 189) hF9 hf18 (by omega)
    have hk21 : s16 (180) = σ (180) := (hf18 (180) (by omega)).trans hk10
    have hk22 : s16 (181) = σ (181) := (hf18 (181) (by omega)).trans hk11
    have hk23 : s16 (182) = σ (182) := (hf18 (182) (by omega)).trans hk12
    have hk24 : s16 (183) = σ (183) := (hf18 (183) (by omega)).trans hk13
    have hk25 : s16 (184) = σ (184) := (hf18 (184) (by omega)).trans hk14
    have hk26 : s16 (187) = σ (187) := (hf18 (187) (by omega)).trans hk15
    refine ra_ifne rfl rfl (ra_in01 hz17) (fun h27 => ?_) (fun h27 => ?_)
    · obtain ⟨-, hr1, hl1, hu1, he1, he1b⟩ := hz17q.resolve_right (fun q => by omega)
      have hv19 : ra_g s16 179 19 = ra_g s3 179 19 := (he19 19 (by decide) (by decide))
      rw [← hv19] at hr1
      have a16 : ra_g s3 179 16 = ra_g σ 179 16 := (he5 16 (by decide) (by decide) (by decide) (by decide))
      have hR2 : x4RR r s16 := (x4RR_k ((hf18 (180) (by omega)).trans (hf4 (180) (by omega))) ⟨by omega, by omega, ((he19 21 (by decide) (by decide)).trans (he5 21 (by decide) (by decide) (by decide) (by decide)))⟩ hR)
      have hK2 := (x4RTK_k (he19 17 (by decide) (by decide)) (he19 18 (by decide) (by decide)) (he19 19 (by decide) (by decide)) (he19 20 (by decide) (by decide)) he8)
      have hW2 := WFa_k ((hf18 (180) (by omega)).trans (hf4 (180) (by omega))) (WF_a hld.1)
      refine ra_load rfl rfl rfl rfl ?_
      refine ra_load rfl rfl rfl rfl ?_
      refine ra_getI rfl lk_8_201 (Nat.zero_le _) sh_179 rfl ?_
      have hr28 : ra_in (ra_g s16 (179) 19) := (ra_in_g _ _ _)
      refine ra_i2l rfl hr28 ?_
      refine ra_lconst1 rfl ?_
      refine ra_cQPp (sp_211 hr28 (by first | omega | (unfold ra_in at *; omega)) (WF_a (LD_k hk21 hld).1)) rfl (ct_211 rfl lk_8_103 (Or.inl rfl) sh_179 (Nat.le_of_ble_eq_true rfl)) (fun z30 hz30 hz30p => ?_)
      refine ra_ifeq rfl rfl (ra_in01 hz30) (fun h31 => ?_) (fun h31 => ?_)
      · refine ra_load rfl rfl rfl rfl ?_
        refine ra_iconst rfl ?_
        refine ra_cQP (s4_252 (by first | omega | (unfold ra_in at *; omega))) rfl (ct_252 rfl lk_8_233 (Or.inl rfl) sh_179 (Nat.le_of_ble_eq_true rfl)) (fun z33 s32 hz33 hz33p hs32 => ?_)
        obtain ⟨hf34, he35, he36⟩ := hs32
        have hF37 := Fr_tr (lo := 179) (hi := 189) hF20 hf34 (by omega)
        have hk38 : s32 (180) = σ (180) := (hf34 (180) (by omega)).trans hk21
        have hk39 : s32 (181) = σ (181) := (hf34 (181) (by omega)).trans hk22
        have hk40 : s32 (182) = σ (182) := (hf34 (182) (by omega)).trans hk23
        have hk41 : s32 (183) = σ (183) := (hf34 (183) (by omega)).trans hk24
        have hk42 : s32 (184) = σ (184) := (hf34 (184) (by omega)).trans hk25
        have hk43 : s32 (187) = σ (187) := (hf34 (187) (by omega)).trans hk26
        exact ra_ireturn rfl (ra_okB hz33) ⟨⟨_, hz33, ⟨(fun q => absurd q (by omega)), (x4ro_f (c := 2) (a := tx_a B bn (tx_e B bn ta)) hz33p (x4pa_n hR2 hW2 (by omega) hr1 (by first | exact Or.inl (fun q => absurd (hz30p.mpr q) (by omega)) | exact Or.inr (by rw [ra_gk ((hf18 (180) (by omega)).trans (hf4 (180) (by omega)))]; omega))) (by have q := he36 he1; omega) (by have q := he36 he1; have q9 := hK2.1; omega))⟩, rfl⟩, ⟨hF37, hk39, hk40, hk41, hk42, (fun a h15 h16 h17 h18 h19 h20 h21 => ((he35 a h15 h16).trans ((he19 a h15 h16).trans (he5 a h17 h18 h19 h20)))), (LD_k hk38 hld), (pt_e (he35 12 (by decide) (by decide)) (he35 17 (by decide) (by decide)) (he35 18 (by decide) (by decide)) (he35 19 (by decide) (by decide)) (pt_e (he19 12 (by decide) (by decide)) (he19 17 (by decide) (by decide)) (he19 18 (by decide) (by decide)) (he19 19 (by decide) (by decide)) he6)), (by have m_s3 := he7.1; have m_s16 : ra_g s16 179 17 = ra_g s3 179 17 := (he19 17 (by decide) (by decide)); have k_s16 : ra_g s16 179 20 = ra_g s3 179 20 := (he19 20 (by decide) (by decide)); have m_s32 : ra_g s32 179 17 = ra_g s16 179 17 := (he35 17 (by decide) (by decide)); have k_s32 : ra_g s32 179 20 = ra_g s16 179 20 := (he35 20 (by decide) (by decide)); omega), ((hf34 (187) (by omega)).trans ((hf18 (187) (by omega)).trans (hf4 (187) (by omega))))⟩⟩
      · refine ra_load rfl rfl rfl rfl ?_
        refine ra_getI rfl lk_8_201 (Nat.zero_le _) sh_179 rfl ?_
        have hr44 : ra_in (ra_g s16 (179) 19) := (ra_in_g _ _ _)
        refine ra_load rfl rfl rfl rfl ?_
        refine ra_getR rfl lk_8_7 (Nat.zero_le _) sh_179 rfl ?_
        refine ra_iconst rfl ?_
        refine ra_ialoadJ (j := 3) rfl sh_180 rfl (by decide) rfl (by decide) ?_
        rw [ra_gk hk21]
        have hr45 : ra_in (ra_g σ (180) 3) := (ra_in_g _ _ _)
        refine ra_irem rfl hr44 hr45 (by omega) ?_
        refine ra_ifeq rfl rfl (ra_in_tmod hr44 (by omega)) (fun h46 => ?_) (fun h46 => ?_)
        · exact ra_weak (by repeat' constructor) (l4_257_67 hpt hld hB hN hR s16 hF20 hk21 hk22 hk23 hk24 hk25 (fun a h15 h16 h17 h18 h19 h20 h21 => ((he19 a h15 h16).trans (he5 a h17 h18 h19 h20))) (pt_e (he19 12 (by decide) (by decide)) (he19 17 (by decide) (by decide)) (he19 18 (by decide) (by decide)) (he19 19 (by decide) (by decide)) he6) (by have m_s3 := he7.1; have m_s16 : ra_g s16 179 17 = ra_g s3 179 17 := (he19 17 (by decide) (by decide)); have k_s16 : ra_g s16 179 20 = ra_g s3 179 20 := (he19 20 (by decide) (by decide)); omega) (by first | assumption | omega) hR2 hK2 (x4TR_k ((he19 12 (by decide) (by decide)).trans (he5 12 (by decide) (by decide) (by decide) (by decide))) ((hf18 (187) (by omega)).trans (hf4 (187) (by omega))) hB) ((hf18 (187) (by omega)).trans (hf4 (187) (by omega))) (x4pa_1 hR2 hW2 hr1 (hz30p.mp (by omega)) (by rw [ra_gk ((hf18 (180) (by omega)).trans (hf4 (180) (by omega)))]; omega)))
        · refine ra_load rfl rfl rfl rfl ?_
          refine ra_iconst rfl ?_
          refine ra_cQP (s4_252 (by first | omega | (unfold ra_in at *; omega))) rfl (ct_252 rfl lk_8_233 (Or.inl rfl) sh_179 (Nat.le_of_ble_eq_true rfl)) (fun z184 s183 hz184 hz184p hs183 => ?_)
          obtain ⟨hf185, he186, he187⟩ := hs183
          have hF188 := Fr_tr (lo := 179) (hi := 189) hF20 hf185 (by omega)
          have hk189 : s183 (180) = σ (180) := (hf185 (180) (by omega)).trans hk21
          have hk190 : s183 (181) = σ (181) := (hf185 (181) (by omega)).trans hk22
          have hk191 : s183 (182) = σ (182) := (hf185 (182) (by omega)).trans hk23
          have hk192 : s183 (183) = σ (183) := (hf185 (183) (by omega)).trans hk24
          have hk193 : s183 (184) = σ (184) := (hf185 (184) (by omega)).trans hk25
          have hk194 : s183 (187) = σ (187) := (hf185 (187) (by omega)).trans hk26
          exact ra_ireturn rfl (ra_okB hz184) ⟨⟨_, hz184, ⟨(fun q => absurd q (by omega)), (x4ro_f (c := 2) (a := tx_a B bn (tx_e B bn ta)) hz184p (x4pa_n hR2 hW2 (by omega) hr1 (by first | exact Or.inl (fun q => absurd (hz30p.mpr q) (by omega)) | exact Or.inr (by rw [ra_gk ((hf18 (180) (by omega)).trans (hf4 (180) (by omega)))]; omega))) (by have q := he187 he1; omega) (by have q := he187 he1; have q9 := hK2.1; omega))⟩, rfl⟩, ⟨hF188, hk190, hk191, hk192, hk193, (fun a h15 h16 h17 h18 h19 h20 h21 => ((he186 a h15 h16).trans ((he19 a h15 h16).trans (he5 a h17 h18 h19 h20)))), (LD_k hk189 hld), (pt_e (he186 12 (by decide) (by decide)) (he186 17 (by decide) (by decide)) (he186 18 (by decide) (by decide)) (he186 19 (by decide) (by decide)) (pt_e (he19 12 (by decide) (by decide)) (he19 17 (by decide) (by decide)) (he19 18 (by decide) (by decide)) (he19 19 (by decide) (by decide)) he6)), (by have m_s3 := he7.1; have m_s16 : ra_g s16 179 17 = ra_g s3 179 17 := (he19 17 (by decide) (by decide)); have k_s16 : ra_g s16 179 20 = ra_g s3 179 20 := (he19 20 (by decide) (by decide)); have m_s183 : ra_g s183 179 17 = ra_g s16 179 17 := (he186 17 (by decide) (by decide)); have k_s183 : ra_g s183 179 20 = ra_g s16 179 20 := (he186 20 (by decide) (by decide)); omega), ((hf185 (187) (by omega)).trans ((hf18 (187) (by omega)).trans (hf4 (187) (by omega))))⟩⟩
    · refine ra_iconst rfl ?_
      exact ra_ireturn rfl (ra_okB (Or.inl rfl)) ⟨⟨_, (Or.inl rfl), ⟨(fun q => absurd q (by decide)), (x4ro_n hz17q (by omega) rfl (fun x hx => x4pa_f hR (WF_a hld.1) (by omega) hx))⟩, rfl⟩, ⟨hF20, hk22, hk23, hk24, hk25, (fun a h15 h16 h17 h18 h19 h20 h21 => ((he19 a h15 h16).trans (he5 a h17 h18 h19 h20))), (LD_k hk21 hld), (pt_e (he19 12 (by decide) (by decide)) (he19 17 (by decide) (by decide)) (he19 18 (by decide) (by decide)) (he19 19 (by decide) (by decide)) he6), (by have m_s3 := he7.1; have m_s16 : ra_g s16 179 17 = ra_g s3 179 17 := (he19 17 (by decide) (by decide)); have k_s16 : ra_g s16 179 20 = ra_g s3 179 20 := (he19 20 (by decide) (by decide)); omega), ((hf18 (187) (by omega)).trans (hf4 (187) (by omega)))⟩⟩
  · refine ra_load rfl rfl rfl rfl ?_
    refine ra_iconst rfl ?_
    refine ra_cQP (s4_252 (by first | omega | (unfold ra_in at *; omega))) rfl (ct_252 rfl lk_8_233 (Or.inl rfl) sh_179 (Nat.le_of_ble_eq_true rfl)) (fun z196 s195 hz196 hz196p hs195 => ?_)
    obtain ⟨hf197, he198, he199⟩ := hs195
    have hF200 := Fr_tr (lo := 179) (hi := 189) Fr_rf hf197 (by omega)
    have hk201 : s195 (180) = σ (180) := (hf197 (180) (by omega))
    have hk202 : s195 (181) = σ (181) := (hf197 (181) (by omega))
    have hk203 : s195 (182) = σ (182) := (hf197 (182) (by omega))
    have hk204 : s195 (183) = σ (183) := (hf197 (183) (by omega))
    have hk205 : s195 (184) = σ (184) := (hf197 (184) (by omega))
    have hk206 : s195 (187) = σ (187) := (hf197 (187) (by omega))
    exact ra_ireturn rfl (ra_okB hz196) ⟨⟨_, hz196, ⟨(fun q => absurd q (by omega)), (x4ro_f (c := 5) (a := ta) hz196p (x4part_0 (by omega)) (by have q := he199 q15; omega) (by have q := he199 q15; omega))⟩, rfl⟩, ⟨hF200, hk202, hk203, hk204, hk205, (fun a h15 h16 h17 h18 h19 h20 h21 => (he198 a h15 h16)), (LD_k hk201 hld), (pt_e (he198 12 (by decide) (by decide)) (he198 17 (by decide) (by decide)) (he198 18 (by decide) (by decide)) (he198 19 (by decide) (by decide)) hpt), (by have m_s195 : ra_g s195 179 17 = ra_g σ 179 17 := (he198 17 (by decide) (by decide)); have k_s195 : ra_g s195 179 20 = ra_g σ 179 20 := (he198 20 (by decide) (by decide)); omega), (hf197 (187) (by omega))⟩⟩
end
end
section
/-! T4: what the reference's methods that read a text do (printed by wip/gen/r4.py) -/
section
variable {B : Nat → Int} {bn ps ta ti : Nat} {r : Nat → Int}
theorem s4_259 {n : Nat} {f : Nat → Int32} {d : Nat}  {σ : ra_V} (hpt : 0 ≤ ra_g σ 179 18 ∧ ra_g σ 179 18 ≤ ra_g σ 179 17 ∧ ra_g σ 179 17 ≤ ra_g σ 179 12 ∧ ra_g σ 179 12 ≤ 500 ∧ 0 ≤ ra_g σ 179 19 ∧ ra_g σ 179 19 ≤ 999) (hld : LD σ) (hB : x4TR σ B bn) (hN : x4RTK B bn σ ta) (hR : x4RR r σ) : ra_C (g_Gs n f) g_sh 0 (d + 7) 259 [.index (179)] σ (fun r9 s => (∃ z : Int, (z = 0 ∨ z = 1) ∧ ((z = 1 → ra_g s 179 20 = 3 → ra_g σ 179 17 < ra_g s 179 17) ∧ x4ROC B bn s z (tx_stmt B bn r ta)) ∧ r9 = .inl (some (ra_I z))) ∧ Fr (179) (189) σ s ∧ s (181) = σ (181) ∧ s (182) = σ (182) ∧ s (183) = σ (183) ∧ s (184) = σ (184) ∧ (∀ a, a ≠ 15 → a ≠ 16 → a ≠ 17 → a ≠ 18 → a ≠ 19 → a ≠ 20 → a ≠ 21 → ra_g s 179 a = ra_g σ 179 a) ∧ LD s ∧ (0 ≤ ra_g s 179 18 ∧ ra_g s 179 18 ≤ ra_g s 179 17 ∧ ra_g s 179 17 ≤ ra_g s 179 12 ∧ ra_g s 179 12 ≤ 500 ∧ 0 ≤ ra_g s 179 19 ∧ ra_g s 179 19 ≤ 999) ∧ ra_g σ 179 17 ≤ ra_g s 179 17 ∧ s (187) = σ (187)) := by
  refine ra_enter (nn := 0) mt_259 rfl (Nat.le_of_ble_eq_true rfl) rfl (fun h => absurd h (by decide +kernel)) ?_
  have hw0 := WF_a hld.1
  unfold WFa at hw0
  have hl5 := hld.2.2.1
  have hR0 := hR
  obtain ⟨⟨q0, q1, q2, q3, q4, q5⟩, q21, -, ⟨q15, q16⟩, qp⟩ := hR0
  have hN0 := hN
  obtain ⟨n1, n2, n3, -, n5, n6, n7⟩ := hN0
  refine ra_load rfl rfl rfl rfl ?_
  refine ra_ldcS rfl lk_8_254 ?_
  refine ra_cQPp (s4_253 lk_8_254 (by decide) hpt hB hN) rfl (ct_253 rfl lk_8_256 (Or.inl rfl) sh_179 (Nat.le_of_ble_eq_true rfl)) (fun z2 hz2 hz2p => ?_)
  have w1 : x4IFW z2 (tx_isw B bn ta ['h', 'e', 'a', 'd'] = true) := by rw [show "head".toList = ['h', 'e', 'a', 'd'] by decide] at hz2p; exact hz2p
  clear hz2p
  refine ra_ifeq rfl rfl (ra_in01 hz2) (fun h3 => ?_) (fun h3 => ?_)
  · refine ra_load rfl rfl rfl rfl ?_
    refine ra_ldcwS rfl lk_8_264 ?_
    refine ra_cQPp (s4_253 lk_8_264 (by decide) hpt hB hN) rfl (ct_253 rfl lk_8_256 (Or.inl rfl) sh_179 (Nat.le_of_ble_eq_true rfl)) (fun z5 hz5 hz5p => ?_)
    have w2 : x4IFW z5 (tx_isw B bn ta ['t', 'a', 'i', 'l'] = true) := by rw [show "tail".toList = ['t', 'a', 'i', 'l'] by decide] at hz5p; exact hz5p
    clear hz5p
    refine ra_ifeq rfl rfl (ra_in01 hz5) (fun h6 => ?_) (fun h6 => ?_)
    · refine ra_load rfl rfl rfl rfl ?_
      refine ra_ldcwS rfl lk_8_266 ?_
      refine ra_cQPp (s4_253 lk_8_266 (by decide) hpt hB hN) rfl (ct_253 rfl lk_8_256 (Or.inl rfl) sh_179 (Nat.le_of_ble_eq_true rfl)) (fun z8 hz8 hz8p => ?_)
      have w3 : x4IFW z8 (tx_isw B bn ta ['a', 'l', 'i', 'g', 'n'] = true) := by rw [show "align".toList = ['a', 'l', 'i', 'g', 'n'] by decide] at hz8p; exact hz8p
      clear hz8p
      refine ra_ifeq rfl rfl (ra_in01 hz8) (fun h9 => ?_) (fun h9 => ?_)
      · refine ra_load rfl rfl rfl rfl ?_
        refine ra_ldcwS rfl lk_8_268 ?_
        refine ra_cQPp (s4_253 lk_8_268 (by decide) hpt hB hN) rfl (ct_253 rfl lk_8_256 (Or.inl rfl) sh_179 (Nat.le_of_ble_eq_true rfl)) (fun z11 hz11 hz11p => ?_)
        have w4 : x4IFW z11 (tx_isw B bn ta ['c', 'h', 'u', 'n', 'k'] = true) := by rw [show "chunk".toList = ['c', 'h', 'u', 'n', 'k'] by decide] at hz11p; exact hz11p
        clear hz11p
        refine ra_ifeq rfl rfl (ra_in01 hz11) (fun h12 => ?_) (fun h12 => ?_)
        · refine ra_load rfl rfl rfl rfl ?_
          refine ra_ldcwS rfl lk_8_270 ?_
          refine ra_cQPp (s4_253 lk_8_270 (by decide) hpt hB hN) rfl (ct_253 rfl lk_8_256 (Or.inl rfl) sh_179 (Nat.le_of_ble_eq_true rfl)) (fun z14 hz14 hz14p => ?_)
          have w5 : x4IFW z14 (tx_isw B bn ta ['p', 'a', 'r', 't'] = true) := by rw [show "part".toList = ['p', 'a', 'r', 't'] by decide] at hz14p; exact hz14p
          clear hz14p
          refine ra_ifeq rfl rfl (ra_in01 hz14) (fun h15 => ?_) (fun h15 => ?_)
          · refine ra_load rfl rfl rfl rfl ?_
            refine ra_ldcwS rfl lk_8_275 ?_
            refine ra_cQPp (s4_253 lk_8_275 (by decide) hpt hB hN) rfl (ct_253 rfl lk_8_256 (Or.inl rfl) sh_179 (Nat.le_of_ble_eq_true rfl)) (fun z17 hz17 hz17p => ?_)
            have w6 : x4IFW z17 (tx_isw B bn ta ['l', 'o', 'c', 'k'] = true) := by rw [show "lock".toList = ['l', 'o', 'c', 'k'] by decide] at hz17p; exact hz17p
            clear hz17p
            refine ra_ifeq rfl rfl (ra_in01 hz17) (fun h18 => ?_) (fun h18 => ?_)
            · refine ra_load rfl rfl rfl rfl ?_
              refine ra_iconst rfl ?_
              refine ra_cQP (s4_252 (by first | omega | (unfold ra_in at *; omega))) rfl (ct_252 rfl lk_8_233 (Or.inl rfl) sh_179 (Nat.le_of_ble_eq_true rfl)) (fun z20 s19 hz20 hz20p hs19 => ?_)
              obtain ⟨hf21, he22, he23⟩ := hs19
              have hF24 := Fr_tr (lo := 179) (hi := 189) Fr_rf hf21 (by omega)
              have hk25 : s19 (180) = σ (180) := (hf21 (180) (by omega))
              have hk26 : s19 (181) = σ (181) := (hf21 (181) (by omega))
              have hk27 : s19 (182) = σ (182) := (hf21 (182) (by omega))
              have hk28 : s19 (183) = σ (183) := (hf21 (183) (by omega))
              have hk29 : s19 (184) = σ (184) := (hf21 (184) (by omega))
              have hk30 : s19 (187) = σ (187) := (hf21 (187) (by omega))
              exact ra_ireturn rfl (ra_okB hz20) ⟨⟨_, hz20, ⟨(fun q => absurd q (by omega)), (x4ro_f (c := 1) (a := ta) hz20p (x4stm_no (fun q => absurd (Iff.mpr w1 q) (by omega)) (fun q => absurd (Iff.mpr w2 q) (by omega)) (fun q => absurd (Iff.mpr w3 q) (by omega)) (fun q => absurd (Iff.mpr w4 q) (by omega)) (fun q => absurd (Iff.mpr w5 q) (by omega)) (fun q => absurd (Iff.mpr w6 q) (by omega))) (by have q := he23 q15; omega) (by have q := he23 q15; omega))⟩, rfl⟩, ⟨hF24, hk26, hk27, hk28, hk29, (fun a h15 h16 h17 h18 h19 h20 h21 => (he22 a h15 h16)), (LD_k (hf21 180 (by omega)) hld), (pt_e (he22 12 (by decide) (by decide)) (he22 17 (by decide) (by decide)) (he22 18 (by decide) (by decide)) (he22 19 (by decide) (by decide)) hpt), (by have m_s19 : ra_g s19 179 17 = ra_g σ 179 17 := (he22 17 (by decide) (by decide)); have k_s19 : ra_g s19 179 20 = ra_g σ 179 20 := (he22 20 (by decide) (by decide)); omega), (hf21 (187) (by omega))⟩⟩
            · refine ra_load rfl rfl rfl rfl ?_
              refine ra_cQPs (s4_258 hpt hld hB hN hR) rfl (ct_258 rfl lk_8_277 (Or.inl rfl) sh_179 (Nat.le_of_ble_eq_true rfl)) (fun z32 s31 hz32 hz32p hs31 => ?_)
              have hz32o := hz32p.1
              have hz32q := hz32p.2
              obtain ⟨hf33, hc34, hc35, hc36, hc37, he38, he39, he40, he41, he42⟩ := hs31
              have hF43 := Fr_tr (lo := 179) (hi := 189) Fr_rf hf33 (by omega)
              have hk44 : s31 (181) = σ (181) := hc34
              have hk45 : s31 (182) = σ (182) := hc35
              have hk46 : s31 (183) = σ (183) := hc36
              have hk47 : s31 (184) = σ (184) := hc37
              refine ra_goto rfl rfl ?_
              exact ra_ireturn rfl (ra_okB hz32) ⟨⟨_, hz32, ⟨hz32o, (by rw [x4stm_lock (Iff.mp w6 (by omega))]; exact hz32q)⟩, rfl⟩, ⟨hF43, hk44, hk45, hk46, hk47, (fun a h15 h16 h17 h18 h19 h20 h21 => (he38 a h15 h16 h17 h18 h19 h20 h21)), he39, he40, (by have m_s31 := he41; omega), he42⟩⟩
          · refine ra_load rfl rfl rfl rfl ?_
            refine ra_cQPs (s4_257 hpt hld hB hN hR) rfl (ct_257 rfl lk_8_272 (Or.inl rfl) sh_179 (Nat.le_of_ble_eq_true rfl)) (fun z49 s48 hz49 hz49p hs48 => ?_)
            have hz49o := hz49p.1
            have hz49q := hz49p.2
            obtain ⟨hf50, hc51, hc52, hc53, hc54, he55, he56, he57, he58, he59⟩ := hs48
            have hF60 := Fr_tr (lo := 179) (hi := 189) Fr_rf hf50 (by omega)
            have hk61 : s48 (181) = σ (181) := hc51
            have hk62 : s48 (182) = σ (182) := hc52
            have hk63 : s48 (183) = σ (183) := hc53
            have hk64 : s48 (184) = σ (184) := hc54
            exact ra_ireturn rfl (ra_okB hz49) ⟨⟨_, hz49, ⟨hz49o, (by rw [x4stm_part (Iff.mp w5 (by omega))]; exact hz49q)⟩, rfl⟩, ⟨hF60, hk61, hk62, hk63, hk64, (fun a h15 h16 h17 h18 h19 h20 h21 => (he55 a h15 h16 h17 h18 h19 h20 h21)), he56, he57, (by have m_s48 := he58; omega), he59⟩⟩
        · refine ra_load rfl rfl rfl rfl ?_
          refine ra_iconst rfl ?_
          refine ra_bipush rfl (by decide) ?_
          refine ra_iconst rfl ?_
          refine ra_bipush rfl (by decide) ?_
          refine ra_cQPs (s4_256 (by first | omega | (unfold ra_in at *; omega)) (by first | omega | (unfold ra_in at *; omega)) (by first | omega | (unfold ra_in at *; omega)) (by first | omega | (unfold ra_in at *; omega)) hpt hld (by omega) hB hN hR) rfl (ct_256 rfl lk_8_260 (Or.inl rfl) sh_179 (Nat.le_of_ble_eq_true rfl)) (fun z66 s65 hz66 hz66p hs65 => ?_)
          have hz66o := hz66p.1
          have hz66q := hz66p.2
          obtain ⟨hf67, hc68, hc69, hc70, hc71, he72, he73, he74, he75, he76⟩ := hs65
          have hF77 := Fr_tr (lo := 179) (hi := 189) Fr_rf hf67 (by omega)
          have hk78 : s65 (181) = σ (181) := hc68
          have hk79 : s65 (182) = σ (182) := hc69
          have hk80 : s65 (183) = σ (183) := hc70
          have hk81 : s65 (184) = σ (184) := hc71
          exact ra_ireturn rfl (ra_okB hz66) ⟨⟨_, hz66, ⟨hz66o, (by rw [x4stm_chunk (Iff.mp w4 (by omega))]; exact hz66q)⟩, rfl⟩, ⟨hF77, hk78, hk79, hk80, hk81, (fun a h15 h16 h17 h18 h19 h20 h21 => (he72 a h15 h16 h17 h18 h19 h20 h21)), he73, he74, (by have m_s65 := he75; omega), he76⟩⟩
      · refine ra_load rfl rfl rfl rfl ?_
        refine ra_iconst rfl ?_
        refine ra_iconst rfl ?_
        refine ra_iconst rfl ?_
        refine ra_bipush rfl (by decide) ?_
        refine ra_cQPs (s4_256 (by first | omega | (unfold ra_in at *; omega)) (by first | omega | (unfold ra_in at *; omega)) (by first | omega | (unfold ra_in at *; omega)) (by first | omega | (unfold ra_in at *; omega)) hpt hld (by omega) hB hN hR) rfl (ct_256 rfl lk_8_260 (Or.inl rfl) sh_179 (Nat.le_of_ble_eq_true rfl)) (fun z83 s82 hz83 hz83p hs82 => ?_)
        have hz83o := hz83p.1
        have hz83q := hz83p.2
        obtain ⟨hf84, hc85, hc86, hc87, hc88, he89, he90, he91, he92, he93⟩ := hs82
        have hF94 := Fr_tr (lo := 179) (hi := 189) Fr_rf hf84 (by omega)
        have hk95 : s82 (181) = σ (181) := hc85
        have hk96 : s82 (182) = σ (182) := hc86
        have hk97 : s82 (183) = σ (183) := hc87
        have hk98 : s82 (184) = σ (184) := hc88
        exact ra_ireturn rfl (ra_okB hz83) ⟨⟨_, hz83, ⟨hz83o, (by rw [x4stm_align (Iff.mp w3 (by omega))]; exact hz83q)⟩, rfl⟩, ⟨hF94, hk95, hk96, hk97, hk98, (fun a h15 h16 h17 h18 h19 h20 h21 => (he89 a h15 h16 h17 h18 h19 h20 h21)), he90, he91, (by have m_s82 := he92; omega), he93⟩⟩
    · refine ra_load rfl rfl rfl rfl ?_
      refine ra_iconst rfl ?_
      refine ra_iconst rfl ?_
      refine ra_iconst rfl ?_
      refine ra_bipush rfl (by decide) ?_
      refine ra_cQPs (s4_256 (by first | omega | (unfold ra_in at *; omega)) (by first | omega | (unfold ra_in at *; omega)) (by first | omega | (unfold ra_in at *; omega)) (by first | omega | (unfold ra_in at *; omega)) hpt hld (by omega) hB hN hR) rfl (ct_256 rfl lk_8_260 (Or.inl rfl) sh_179 (Nat.le_of_ble_eq_true rfl)) (fun z100 s99 hz100 hz100p hs99 => ?_)
      have hz100o := hz100p.1
      have hz100q := hz100p.2
      obtain ⟨hf101, hc102, hc103, hc104, hc105, he106, he107, he108, he109, he110⟩ := hs99
      have hF111 := Fr_tr (lo := 179) (hi := 189) Fr_rf hf101 (by omega)
      have hk112 : s99 (181) = σ (181) := hc102
      have hk113 : s99 (182) = σ (182) := hc103
      have hk114 : s99 (183) = σ (183) := hc104
      have hk115 : s99 (184) = σ (184) := hc105
      exact ra_ireturn rfl (ra_okB hz100) ⟨⟨_, hz100, ⟨hz100o, (by rw [x4stm_tail (Iff.mp w2 (by omega))]; exact hz100q)⟩, rfl⟩, ⟨hF111, hk112, hk113, hk114, hk115, (fun a h15 h16 h17 h18 h19 h20 h21 => (he106 a h15 h16 h17 h18 h19 h20 h21)), he107, he108, (by have m_s99 := he109; omega), he110⟩⟩
  · refine ra_load rfl rfl rfl rfl ?_
    refine ra_iconst rfl ?_
    refine ra_iconst rfl ?_
    refine ra_iconst rfl ?_
    refine ra_bipush rfl (by decide) ?_
    refine ra_cQPs (s4_256 (by first | omega | (unfold ra_in at *; omega)) (by first | omega | (unfold ra_in at *; omega)) (by first | omega | (unfold ra_in at *; omega)) (by first | omega | (unfold ra_in at *; omega)) hpt hld (by omega) hB hN hR) rfl (ct_256 rfl lk_8_260 (Or.inl rfl) sh_179 (Nat.le_of_ble_eq_true rfl)) (fun z117 s116 hz117 hz117p hs116 => ?_)
    have hz117o := hz117p.1
    have hz117q := hz117p.2
    obtain ⟨hf118, hc119, hc120, hc121, hc122, he123, he124, he125, he126, he127⟩ := hs116
    have hF128 := Fr_tr (lo := 179) (hi := 189) Fr_rf hf118 (by omega)
    have hk129 : s116 (181) = σ (181) := hc119
    have hk130 : s116 (182) = σ (182) := hc120
    have hk131 : s116 (183) = σ (183) := hc121
    have hk132 : s116 (184) = σ (184) := hc122
    exact ra_ireturn rfl (ra_okB hz117) ⟨⟨_, hz117, ⟨hz117o, (by rw [x4stm_head (Iff.mp w1 (by omega))]; exact hz117q)⟩, rfl⟩, ⟨hF128, hk129, hk130, hk131, hk132, (fun a h15 h16 h17 h18 h19 h20 h21 => (he123 a h15 h16 h17 h18 h19 h20 h21)), he124, he125, (by have m_s116 := he126; omega), he127⟩⟩
end
end
section
/-! T4: what the reference's methods that read a text do (printed by wip/gen/r4.py) -/
section
variable {B : Nat → Int} {bn ps ta ti : Nat} {r : Nat → Int}
theorem l4_261_56 {n : Nat} {f : Nat → Int32} {d : Nat}  {σ : ra_V} (hpt : 0 ≤ ra_g σ 179 18 ∧ ra_g σ 179 18 ≤ ra_g σ 179 17 ∧ ra_g σ 179 17 ≤ ra_g σ 179 12 ∧ ra_g σ 179 12 ≤ 500 ∧ 0 ≤ ra_g σ 179 19 ∧ ra_g σ 179 19 ≤ 999) (hld : LD σ) (h50 : ra_g σ 180 5 = 0) (hB : x4TR σ B bn) (hN : x4RTK B bn σ (tx_a B bn 0)) (hZ : ra_g σ 180 1 = 0 ∧ ra_g σ 180 2 = 0 ∧ ra_g σ 180 3 = 1 ∧ ra_g σ 180 4 = 4 ∧ ra_g σ 180 5 = 0) (hZ9 : ra_g σ 179 15 = 0 ∧ ra_g σ 179 16 = -1 ∧ ra_g σ 179 21 = 0) : ∀ (nn : Nat) (s : ra_V) (hF : Fr (179) (189) σ s) (hk0 : s (181) = σ (181)) (hk1 : s (182) = σ (182)) (hk2 : s (183) = σ (183)) (hk3 : s (184) = σ (184)) (hov : ∀ a, a ≠ 15 → a ≠ 16 → a ≠ 17 → a ≠ 18 → a ≠ 19 → a ≠ 20 → a ≠ 21 → ra_g s 179 a = ra_g σ 179 a) (hls : LD s) (hps : 0 ≤ ra_g s 179 18 ∧ ra_g s 179 18 ≤ ra_g s 179 17 ∧ ra_g s 179 17 ≤ ra_g s 179 12 ∧ ra_g s 179 12 ≤ 500 ∧ 0 ≤ ra_g s 179 19 ∧ ra_g s 179 19 ≤ 999) (hmo : ra_g σ 179 17 ≤ ra_g s 179 17) (hBs : x4TR s B bn) (k7 : s (187) = σ (187)) (hLI : x4RLI B bn s) (hm : ((501 - ra_g s 179 17 : Int)).toNat < nn), ra_P (g_Gs n f) g_sh 0 (d + 7) g_m_X8_readText 56 [some (.index (179))] [] s (fun r9 s => (∃ z : Int, (z = 0 ∨ z = 1) ∧ (x4RP s z (tx_text B bn)) ∧ r9 = .inl (some (ra_I z))) ∧ Fr (179) (189) σ s ∧ s (181) = σ (181) ∧ s (182) = σ (182) ∧ s (183) = σ (183) ∧ s (184) = σ (184) ∧ (∀ a, a ≠ 15 → a ≠ 16 → a ≠ 17 → a ≠ 18 → a ≠ 19 → a ≠ 20 → a ≠ 21 → ra_g s 179 a = ra_g σ 179 a) ∧ LD s ∧ (0 ≤ ra_g s 179 18 ∧ ra_g s 179 18 ≤ ra_g s 179 17 ∧ ra_g s 179 17 ≤ ra_g s 179 12 ∧ ra_g s 179 12 ≤ 500 ∧ 0 ≤ ra_g s 179 19 ∧ ra_g s 179 19 ≤ 999) ∧ ra_g σ 179 17 ≤ ra_g s 179 17 ∧ s (187) = σ (187)) := by
  intro nn
  induction nn with
  | zero => intro s hF hk0 hk1 hk2 hk3 hov hls hps hmo hBs k7 hLI hm; exact absurd hm (Nat.not_lt_zero _)
  | succ nn ih =>
    intro s hF hk0 hk1 hk2 hk3 hov hls hps hmo hBs k7 hLI hm
    have hw0 := WF_a hls.1
    unfold WFa at hw0
    have hLI0 := hLI
    obtain ⟨ki, ri, ii, hi1, hi2, hi3, hi4⟩ := hLI0
    refine ra_load rfl rfl rfl rfl ?_
    refine ra_getI rfl lk_8_204 (Nat.zero_le _) sh_179 rfl ?_
    have hr56 : ra_in (ra_g s (179) 20) := (ra_in_g _ _ _)
    refine ra_ifeq rfl rfl hr56 (fun h57 => ?_) (fun h57 => ?_)
    · refine ra_iconst rfl ?_
      exact ra_ireturn rfl (ra_okB (Or.inr rfl)) ⟨⟨_, (Or.inr rfl), (x4rp_e hLI (by omega) rfl), rfl⟩, ⟨hF, hk0, hk1, hk2, hk3, (fun a h15 h16 h17 h18 h19 h20 h21 => (hov a h15 h16 h17 h18 h19 h20 h21)), hls, hps, (by omega), k7⟩⟩
    · refine ra_load rfl rfl rfl rfl ?_
      refine ra_cQPs (s4_259 hps hls hBs hi3 hi2) rfl (ct_259 rfl lk_8_285 (Or.inl rfl) sh_179 (Nat.le_of_ble_eq_true rfl)) (fun z59 s58 hz59 hz59p hs58 => ?_)
      have hz59o := hz59p.1
      have hz59q := hz59p.2
      obtain ⟨hf60, hc61, hc62, hc63, hc64, he65, he66, he67, he68, he69⟩ := hs58
      have hF70 := Fr_tr (lo := 179) (hi := 189) hF hf60 (by omega)
      have hk71 : s58 (181) = σ (181) := hc61.trans hk0
      have hk72 : s58 (182) = σ (182) := hc62.trans hk1
      have hk73 : s58 (183) = σ (183) := hc63.trans hk2
      have hk74 : s58 (184) = σ (184) := hc64.trans hk3
      refine ra_ifeq rfl rfl (ra_in01 hz59) (fun h75 => ?_) (fun h75 => ?_)
      · refine ra_iconst rfl ?_
        exact ra_ireturn rfl (ra_okB (Or.inl rfl)) ⟨⟨_, (Or.inl rfl), (x4rp_n hi1 hi4 (by omega) hi3 (by omega) hz59q (by omega) rfl), rfl⟩, ⟨hF70, hk71, hk72, hk73, hk74, (fun a h15 h16 h17 h18 h19 h20 h21 => ((he65 a h15 h16 h17 h18 h19 h20 h21).trans (hov a h15 h16 h17 h18 h19 h20 h21))), he66, he67, (by have m_s58 := he68; omega), (he69.trans k7)⟩⟩
      · obtain ⟨-, r2, e2, hc1, hc2, hc3, hc4⟩ := hz59q.resolve_right (fun q => by omega)
        refine ra_load rfl rfl rfl rfl ?_
        refine ra_cQPs (s4_260 he67 (x4TR_k (he65 12 (by decide) (by decide) (by decide) (by decide) (by decide) (by decide) (by decide)) he69 hBs) (hc3) hc2.2.2.2.1.1) rfl (ct_260 rfl lk_8_282 (Or.inl rfl) sh_179 (Nat.le_of_ble_eq_true rfl)) (fun z77 s76 hz77 hz77p hs76 => ?_)
        have hz77o := hz77p.1
        have hz77q := hz77p.2
        obtain ⟨hf78, he79, he80, he81⟩ := hs76
        have hF82 := Fr_tr (lo := 179) (hi := 189) hF70 hf78 (by omega)
        have hk83 : s76 (181) = σ (181) := (hf78 (181) (by omega)).trans hk71
        have hk84 : s76 (182) = σ (182) := (hf78 (182) (by omega)).trans hk72
        have hk85 : s76 (183) = σ (183) := (hf78 (183) (by omega)).trans hk73
        have hk86 : s76 (184) = σ (184) := (hf78 (184) (by omega)).trans hk74
        refine ra_ifne rfl rfl (ra_in01 hz77) (fun h87 => ?_) (fun h87 => ?_)
        · exact ra_weak (by repeat' constructor) (ih s76 hF82 hk83 hk84 hk85 hk86 (fun a h15 h16 h17 h18 h19 h20 h21 => ((he79 a h15 h16 h17 h18 h19 h20).trans ((he65 a h15 h16 h17 h18 h19 h20 h21).trans (hov a h15 h16 h17 h18 h19 h20 h21)))) (LD_k (hf78 180 (by omega)) he66) he80 (by have m_s58 := he68; have m_s76 := he81; omega) (x4TR_k ((he79 12 (by decide) (by decide) (by decide) (by decide) (by decide) (by decide)).trans (he65 12 (by decide) (by decide) (by decide) (by decide) (by decide) (by decide) (by decide))) ((hf78 (187) (by omega)).trans he69) hBs) (((hf78 (187) (by omega)).trans he69).trans k7) (x4rli_s hi1 hi4 (by omega) hi3 (by omega) hc1 hc2 hz77q (by omega) (hf78 180 (by omega)) (he79 21 (by decide) (by decide) (by decide) (by decide) (by decide) (by decide)) (by have m_s58 := he68; have m_s76 := he81; have m_q := hz59o; have m_p := hz77o; omega)) (by first | omega | (unfold ra_in at *; omega)))
        · refine ra_iconst rfl ?_
          exact ra_ireturn rfl (ra_okB (Or.inl rfl)) ⟨⟨_, (Or.inl rfl), (x4rp_n2 hi1 hi4 (by omega) hi3 (by omega) hc1 hz77q (by omega) rfl), rfl⟩, ⟨hF82, hk83, hk84, hk85, hk86, (fun a h15 h16 h17 h18 h19 h20 h21 => ((he79 a h15 h16 h17 h18 h19 h20).trans ((he65 a h15 h16 h17 h18 h19 h20 h21).trans (hov a h15 h16 h17 h18 h19 h20 h21)))), (LD_k (hf78 180 (by omega)) he66), he80, (by have m_s58 := he68; have m_s76 := he81; omega), (((hf78 (187) (by omega)).trans he69).trans k7)⟩⟩
theorem s4_261 {n : Nat} {f : Nat → Int32} {d : Nat}  {σ : ra_V} (hpt : 0 ≤ ra_g σ 179 18 ∧ ra_g σ 179 18 ≤ ra_g σ 179 17 ∧ ra_g σ 179 17 ≤ ra_g σ 179 12 ∧ ra_g σ 179 12 ≤ 500 ∧ 0 ≤ ra_g σ 179 19 ∧ ra_g σ 179 19 ≤ 999) (hld : LD σ) (h50 : ra_g σ 180 5 = 0) (hB : x4TR σ B bn) (hN : x4RTK B bn σ (tx_a B bn 0)) (hZ : ra_g σ 180 1 = 0 ∧ ra_g σ 180 2 = 0 ∧ ra_g σ 180 3 = 1 ∧ ra_g σ 180 4 = 4 ∧ ra_g σ 180 5 = 0) (hZ9 : ra_g σ 179 15 = 0 ∧ ra_g σ 179 16 = -1 ∧ ra_g σ 179 21 = 0) : ra_C (g_Gs n f) g_sh 0 (d + 8) 261 [.index (179)] σ (fun r9 s => (∃ z : Int, (z = 0 ∨ z = 1) ∧ (x4RP s z (tx_text B bn)) ∧ r9 = .inl (some (ra_I z))) ∧ Fr (179) (189) σ s ∧ s (181) = σ (181) ∧ s (182) = σ (182) ∧ s (183) = σ (183) ∧ s (184) = σ (184) ∧ (∀ a, a ≠ 15 → a ≠ 16 → a ≠ 17 → a ≠ 18 → a ≠ 19 → a ≠ 20 → a ≠ 21 → ra_g s 179 a = ra_g σ 179 a) ∧ LD s ∧ (0 ≤ ra_g s 179 18 ∧ ra_g s 179 18 ≤ ra_g s 179 17 ∧ ra_g s 179 17 ≤ ra_g s 179 12 ∧ ra_g s 179 12 ≤ 500 ∧ 0 ≤ ra_g s 179 19 ∧ ra_g s 179 19 ≤ 999) ∧ ra_g σ 179 17 ≤ ra_g s 179 17 ∧ s (187) = σ (187)) := by
  refine ra_enter (nn := 0) mt_261 rfl (Nat.le_of_ble_eq_true rfl) rfl (fun h => absurd h (by decide +kernel)) ?_
  have hw0 := WF_a hld.1
  unfold WFa at hw0
  have hl5 := hld.2.2.1
  have hZ0 := hZ
  obtain ⟨z1, z2, z3, z4, z5⟩ := hZ0
  have hZ90 := hZ9
  obtain ⟨z15, z16, z21⟩ := hZ90
  have hN0 := hN
  obtain ⟨n1, n2, n3, -, n5, n6, n7⟩ := hN0
  refine ra_load rfl rfl rfl rfl ?_
  refine ra_ldcwS rfl lk_8_280 ?_
  refine ra_cQPp (s4_253 lk_8_280 (by decide) hpt hB hN) rfl (ct_253 rfl lk_8_256 (Or.inl rfl) sh_179 (Nat.le_of_ble_eq_true rfl)) (fun z2 hz2 hz2p => ?_)
  have w1 : x4IFW z2 (tx_isw B bn (tx_a B bn 0) ['d', 'i', 's', 'k'] = true) := by rw [show "disk".toList = ['d', 'i', 's', 'k'] by decide] at hz2p; exact hz2p
  clear hz2p
  refine ra_ifne rfl rfl (ra_in01 hz2) (fun h3 => ?_) (fun h3 => ?_)
  · refine ra_load rfl rfl rfl rfl ?_
    refine ra_cV (s4_250 (by have q := hpt; omega) hB (show ra_g σ 179 17 = ((tx_e B bn (tx_a B bn 0) : Nat) : Int) from (rfl).trans hN.2.1) (by omega)) rfl (ct_250 rfl lk_8_240 (Or.inl rfl) sh_179 (Nat.le_of_ble_eq_true rfl)) (fun s4 hs4 => ?_)
    obtain ⟨hf5, he6, he7, he8, he9⟩ := hs4
    have hF10 := Fr_tr (lo := 179) (hi := 189) Fr_rf hf5 (by omega)
    have hk11 : s4 (180) = σ (180) := (hf5 (180) (by omega))
    have hk12 : s4 (181) = σ (181) := (hf5 (181) (by omega))
    have hk13 : s4 (182) = σ (182) := (hf5 (182) (by omega))
    have hk14 : s4 (183) = σ (183) := (hf5 (183) (by omega))
    have hk15 : s4 (184) = σ (184) := (hf5 (184) (by omega))
    have hk16 : s4 (187) = σ (187) := (hf5 (187) (by omega))
    refine ra_load rfl rfl rfl rfl ?_
    refine ra_iconst rfl ?_
    refine ra_bipush rfl (by decide) ?_
    refine ra_sipush rfl (by decide) ?_
    refine ra_cQPs (s4_255 (by first | omega | (unfold ra_in at *; omega)) (by first | omega | (unfold ra_in at *; omega)) (by first | omega | (unfold ra_in at *; omega)) he7 (by first | assumption | rfl | omega) (x4TR_k (he6 12 (by decide) (by decide) (by decide) (by decide)) (hf5 (187) (by omega)) hB) he9 (((he6 15 (by decide) (by decide) (by decide) (by decide))).trans z15)) rfl (ct_255 rfl lk_8_246 (Or.inl rfl) sh_179 (Nat.le_of_ble_eq_true rfl)) (fun z18 s17 hz18 hz18p hs17 => ?_)
    have hz18o := hz18p.1
    have hz18q := hz18p.2
    obtain ⟨hf19, hc20, hc21, hc22, hc23, hc24, he25, he26, he27, he28, he29⟩ := hs17
    have hF30 := Fr_tr (lo := 179) (hi := 189) hF10 hf19 (by omega)
    have hk31 : s17 (180) = σ (180) := hc20.trans hk11
    have hk32 : s17 (181) = σ (181) := hc21.trans hk12
    have hk33 : s17 (182) = σ (182) := hc22.trans hk13
    have hk34 : s17 (183) = σ (183) := hc23.trans hk14
    have hk35 : s17 (184) = σ (184) := hc24.trans hk15
    refine ra_ifne rfl rfl (ra_in01 hz18) (fun h36 => ?_) (fun h36 => ?_)
    · rw [toN0] at hz18q
      obtain ⟨-, hr1, hK1, hl1, hu1, he1, he1b⟩ := hz18q.resolve_right (fun q => by omega)
      have ht := hz18o (by omega)
      rw [toN0] at ht
      have hld1 := (LD_k hc20 (LD_k (hf5 180 (by omega)) hld))
      have h51 : ra_g s17 180 5 = ra_g σ 180 5 := ra_gk hk31
      refine ra_load rfl rfl rfl rfl ?_
      refine ra_getR rfl lk_8_7 (Nat.zero_le _) sh_179 rfl ?_
      refine ra_iconst rfl ?_
      refine ra_load rfl rfl rfl rfl ?_
      refine ra_getR rfl lk_8_38 (Nat.zero_le _) sh_179 rfl ?_
      refine ra_iconst rfl ?_
      refine ra_ialoadJ (j := 0) rfl sh_188 rfl (by decide) rfl (by decide) ?_
      have hr37 : ra_in (ra_g s17 (188) 0) := (ra_in_g _ _ _)
      refine ra_iastoreJ (j := 0) rfl sh_180 rfl (by decide) rfl (by decide) ?_
      refine ra_newR hr37 (fun s38 hs38 hs38v hs38o => ?_)
      have hF39 := Fr_tr (lo := 179) (hi := 189) hF30 hs38 (by omega)
      have hk40 : s38 (181) = σ (181) := (hs38 (181) (by omega)).trans hk32
      have hk41 : s38 (182) = σ (182) := (hs38 (182) (by omega)).trans hk33
      have hk42 : s38 (183) = σ (183) := (hs38 (183) (by omega)).trans hk34
      have hk43 : s38 (184) = σ (184) := (hs38 (184) (by omega)).trans hk35
      have hR4 : x4RR (tx_r0 (ra_g s17 188 0)) s38 := x4RR_0 ⟨hs38v, ((hs38o 1 (by decide)).trans (ra_gk (hc20.trans (hf5 (180) (by omega))))).trans (by omega), ((hs38o 2 (by decide)).trans (ra_gk (hc20.trans (hf5 (180) (by omega))))).trans (by omega), ((hs38o 3 (by decide)).trans (ra_gk (hc20.trans (hf5 (180) (by omega))))).trans (by omega), ((hs38o 4 (by decide)).trans (ra_gk (hc20.trans (hf5 (180) (by omega))))).trans (by omega), ((hs38o 5 (by decide)).trans (ra_gk (hc20.trans (hf5 (180) (by omega))))).trans (by omega)⟩ ⟨by have a : ra_g s38 179 15 = ra_g s17 179 15 := (ra_gk (hs38 179 (by omega))); omega, by have a : ra_g s38 179 16 = ra_g s17 179 16 := (ra_gk (hs38 179 (by omega))); have b : ra_g s4 179 16 = ra_g σ 179 16 := (he6 16 (by decide) (by decide) (by decide) (by decide)); omega, (((ra_gk (hs38 179 (by omega))).trans ((he25 21 (by decide) (by decide) (by decide) (by decide) (by decide) (by decide)).trans (he6 21 (by decide) (by decide) (by decide) (by decide))))).trans z21⟩
      refine ra_load rfl rfl rfl rfl ?_
      refine ra_cQPs (s4_260 (pt_e (ra_gk (hs38 179 (by omega))) (ra_gk (hs38 179 (by omega))) (ra_gk (hs38 179 (by omega))) (ra_gk (hs38 179 (by omega))) he27) (x4TR_k ((ra_gk (hs38 179 (by omega))).trans ((he25 12 (by decide) (by decide) (by decide) (by decide) (by decide) (by decide)).trans (he6 12 (by decide) (by decide) (by decide) (by decide)))) ((hs38 (187) (by omega)).trans (he29.trans (hf5 (187) (by omega)))) hB) (x4RTK_k (ra_gk (hs38 179 (by omega))) (ra_gk (hs38 179 (by omega))) (ra_gk (hs38 179 (by omega))) (ra_gk (hs38 179 (by omega))) hK1) hR4.2.2.2.1.1) rfl (ct_260 rfl lk_8_282 (Or.inl rfl) sh_179 (Nat.le_of_ble_eq_true rfl)) (fun z45 s44 hz45 hz45p hs44 => ?_)
      have hz45o := hz45p.1
      have hz45q := hz45p.2
      obtain ⟨hf46, he47, he48, he49⟩ := hs44
      have hF50 := Fr_tr (lo := 179) (hi := 189) hF39 hf46 (by omega)
      have hk51 : s44 (181) = σ (181) := (hf46 (181) (by omega)).trans hk40
      have hk52 : s44 (182) = σ (182) := (hf46 (182) (by omega)).trans hk41
      have hk53 : s44 (183) = σ (183) := (hf46 (183) (by omega)).trans hk42
      have hk54 : s44 (184) = σ (184) := (hf46 (184) (by omega)).trans hk43
      refine ra_ifne rfl rfl (ra_in01 hz45) (fun h55 => ?_) (fun h55 => ?_)
      · exact ra_weak (by repeat' constructor) (l4_261_56 hpt hld h50 hB hN hZ hZ9 _ s44 hF50 hk51 hk52 hk53 hk54 (fun a h15 h16 h17 h18 h19 h20 h21 => ((he47 a h15 h16 h17 h18 h19 h20).trans ((ra_gk (hs38 179 (by omega))).trans ((he25 a h15 h16 h17 h18 h19 h20).trans (he6 a h17 h18 h19 h20))))) (LD_k (hf46 180 (by omega)) (LD_set (j := 0) hld1 (by omega) hs38o (fun q => by have t := hs38v; omega) (fun q => by omega) (fun q => by omega) (fun q => by omega) (by omega))) he48 (by have m_s4 := he8.1; have m_s17 := he28; have m_s38 : ra_g s38 179 17 = ra_g s17 179 17 := (ra_gk (hs38 179 (by omega))); have k_s38 : ra_g s38 179 20 = ra_g s17 179 20 := (ra_gk (hs38 179 (by omega))); have m_s44 := he49; omega) (x4TR_k ((he47 12 (by decide) (by decide) (by decide) (by decide) (by decide) (by decide)).trans ((ra_gk (hs38 179 (by omega))).trans ((he25 12 (by decide) (by decide) (by decide) (by decide) (by decide) (by decide)).trans (he6 12 (by decide) (by decide) (by decide) (by decide))))) ((hf46 (187) (by omega)).trans ((hs38 (187) (by omega)).trans (he29.trans (hf5 (187) (by omega))))) hB) ((hf46 (187) (by omega)).trans ((hs38 (187) (by omega)).trans (he29.trans (hf5 (187) (by omega))))) (x4rli_0 (Iff.mp w1 (by omega)) hr1 hR4 hz45q (by omega) (hf46 180 (by omega)) (he47 21 (by decide) (by decide) (by decide) (by decide) (by decide) (by decide)) (by have a := x4isw_iff.mp (Iff.mp w1 (by omega)); have a2 : tx_e B bn (tx_a B bn 0) - tx_a B bn 0 = 4 := a.2.1; have m_s4 := he8.1; have m_s17 := he28; have m_s38 : ra_g s38 179 17 = ra_g s17 179 17 := (ra_gk (hs38 179 (by omega))); have k_s38 : ra_g s38 179 20 = ra_g s17 179 20 := (ra_gk (hs38 179 (by omega))); have m_s44 := he49; omega)) (Nat.lt_succ_self _))
      · refine ra_iconst rfl ?_
        exact ra_ireturn rfl (ra_okB (Or.inl rfl)) ⟨⟨_, (Or.inl rfl), (x4rp_s hz45q (by omega) rfl (fun x hx => x4text_3 (Iff.mp w1 (by omega)) hr1 hx)), rfl⟩, ⟨hF50, hk51, hk52, hk53, hk54, (fun a h15 h16 h17 h18 h19 h20 h21 => ((he47 a h15 h16 h17 h18 h19 h20).trans ((ra_gk (hs38 179 (by omega))).trans ((he25 a h15 h16 h17 h18 h19 h20).trans (he6 a h17 h18 h19 h20))))), (LD_k (hf46 180 (by omega)) (LD_set (j := 0) hld1 (by omega) hs38o (fun q => by have t := hs38v; omega) (fun q => by omega) (fun q => by omega) (fun q => by omega) (by omega))), he48, (by have m_s4 := he8.1; have m_s17 := he28; have m_s38 : ra_g s38 179 17 = ra_g s17 179 17 := (ra_gk (hs38 179 (by omega))); have k_s38 : ra_g s38 179 20 = ra_g s17 179 20 := (ra_gk (hs38 179 (by omega))); have m_s44 := he49; omega), ((hf46 (187) (by omega)).trans ((hs38 (187) (by omega)).trans (he29.trans (hf5 (187) (by omega)))))⟩⟩
    · refine ra_iconst rfl ?_
      exact ra_ireturn rfl (ra_okB (Or.inl rfl)) ⟨⟨_, (Or.inl rfl), (x4rp_t hz18q (by omega) rfl (fun x hx => x4text_2 (Iff.mp w1 (by omega)) hx)), rfl⟩, ⟨hF30, hk32, hk33, hk34, hk35, (fun a h15 h16 h17 h18 h19 h20 h21 => ((he25 a h15 h16 h17 h18 h19 h20).trans (he6 a h17 h18 h19 h20))), (LD_k hc20 (LD_k (hf5 180 (by omega)) hld)), he27, (by have m_s4 := he8.1; have m_s17 := he28; omega), (he29.trans (hf5 (187) (by omega)))⟩⟩
  · refine ra_load rfl rfl rfl rfl ?_
    refine ra_iconst rfl ?_
    refine ra_cQP (s4_252 (by first | omega | (unfold ra_in at *; omega))) rfl (ct_252 rfl lk_8_233 (Or.inl rfl) sh_179 (Nat.le_of_ble_eq_true rfl)) (fun z89 s88 hz89 hz89p hs88 => ?_)
    obtain ⟨hf90, he91, he92⟩ := hs88
    have hF93 := Fr_tr (lo := 179) (hi := 189) Fr_rf hf90 (by omega)
    have hk94 : s88 (180) = σ (180) := (hf90 (180) (by omega))
    have hk95 : s88 (181) = σ (181) := (hf90 (181) (by omega))
    have hk96 : s88 (182) = σ (182) := (hf90 (182) (by omega))
    have hk97 : s88 (183) = σ (183) := (hf90 (183) (by omega))
    have hk98 : s88 (184) = σ (184) := (hf90 (184) (by omega))
    have hk99 : s88 (187) = σ (187) := (hf90 (187) (by omega))
    exact ra_ireturn rfl (ra_okB hz89) ⟨⟨_, hz89, (x4rp_f (c := 1) (a := tx_a B bn 0) hz89p (x4text_1 (fun q => absurd (Iff.mpr w1 q) (by omega))) (by have q := he92 z15; omega) (by have q := he92 z15; omega)), rfl⟩, ⟨hF93, hk95, hk96, hk97, hk98, (fun a h15 h16 h17 h18 h19 h20 h21 => (he91 a h15 h16)), (LD_k (hf90 180 (by omega)) hld), (pt_e (he91 12 (by decide) (by decide)) (he91 17 (by decide) (by decide)) (he91 18 (by decide) (by decide)) (he91 19 (by decide) (by decide)) hpt), (by have m_s88 : ra_g s88 179 17 = ra_g σ 179 17 := (he91 17 (by decide) (by decide)); have k_s88 : ra_g s88 179 20 = ra_g σ 179 20 := (he91 20 (by decide) (by decide)); omega), (hf90 (187) (by omega))⟩⟩
end
end
section
/-! T4: what the reference's methods that read a text do (printed by wip/gen/r4.py) -/
section
variable {B : Nat → Int} {bn ps ta ti : Nat} {r : Nat → Int}
theorem l4_203_4 {n : Nat} {f : Nat → Int32} {d : Nat}  {σ : ra_V} (hld : LD σ) : ∀ (nn : Nat) (v1 : Int) (v2 : Int) (hv1_0 : v1 = min v2 (ra_g σ 180 5)) (hv2_0 : 0 ≤ v2) (hv2_1 : v2 ≤ 8) (hm : ((8 - v2 : Int)).toNat < nn), ra_P (g_Gs n f) g_sh 0 (d + 1) g_m_X8_partsMany 4 [some (.index (179)), some (ra_I v1), some (ra_I v2)] [] σ (fun r9 s => (∃ z, ra_in z ∧ (z = ra_g σ 180 5) ∧ r9 = .inl (some (ra_I z))) ∧ s = σ) := by
  intro nn
  induction nn with
  | zero => intro v1 v2 hv1_0 hv2_0 hv2_1 hm; exact absurd hm (Nat.not_lt_zero _)
  | succ nn ih =>
    intro v1 v2 hv1_0 hv2_0 hv2_1 hm
    have hld0 := hld
    obtain ⟨l1, l2, l3, l4⟩ := hld0
    have l4v := l4 v2
    have lx : 0 ≤ v2 → v2 < 8 → (wq σ v2 0 = 0 ∨ wq σ v2 0 = 1) := fun a b => WF_ex l1 a b
    refine ra_load rfl rfl rfl rfl ?_
    refine ra_bipush rfl (by decide) ?_
    refine ra_icge rfl rfl (by first | omega | (unfold ra_in at *; omega)) (by first | omega | (unfold ra_in at *; omega)) (fun h1 => ?_) (fun h1 => ?_)
    · refine ra_load rfl rfl rfl rfl ?_
      exact ra_ireturn rfl rfl ⟨⟨_, (by first | omega | (unfold ra_in at *; omega)), (by omega), rfl⟩, rfl⟩
    · refine ra_load rfl rfl rfl rfl ?_
      refine ra_load rfl rfl rfl rfl ?_
      refine ra_load rfl rfl rfl rfl ?_
      refine ra_iconst rfl ?_
      refine ra_cTp (sp_200 (by first | omega | (unfold ra_in at *; omega)) (by first | omega | (unfold ra_in at *; omega)) (by first | assumption | rfl | omega)) rfl (ct_200 rfl lk_8_67 (Or.inl rfl) sh_179 (Nat.le_of_ble_eq_true rfl)) ?_
      have hr3 : ra_in (wq σ v2 (0)) := (ra_in_wq _ _ _)
      refine ra_iadd rfl ?_
      refine ra_store (L' := [_, _, _]) rfl rfl rfl (Nat.le_of_ble_eq_true rfl) rfl ?_
      refine ra_iinc (L' := [_, _, _]) rfl rfl (Nat.le_of_ble_eq_true rfl) rfl ?_
      refine ra_goto rfl rfl ?_
      exact ra_weak (by repeat' constructor) (ih (v1 + (wq σ v2 (0))) (v2 + 1) (by first | omega | (unfold ra_in at *; omega)) (by first | omega | (unfold ra_in at *; omega)) (by first | omega | (unfold ra_in at *; omega)) (by first | omega | (unfold ra_in at *; omega)))
theorem s4_203 {n : Nat} {f : Nat → Int32} {d : Nat}  {σ : ra_V} (hld : LD σ) : ra_C (g_Gs n f) g_sh 0 (d + 2) 203 [.index (179)] σ (fun r9 s => (∃ z, ra_in z ∧ (z = ra_g σ 180 5) ∧ r9 = .inl (some (ra_I z))) ∧ s = σ) := by
  refine ra_enter (nn := 2) mt_203 rfl (Nat.le_of_ble_eq_true rfl) rfl (fun h => absurd h (by decide +kernel)) ?_
  have hld0 := hld
  obtain ⟨l1, l2, l3, l4⟩ := hld0
  refine ra_iconst rfl ?_
  refine ra_store (L' := [_, _, _]) rfl rfl rfl (Nat.le_of_ble_eq_true rfl) rfl ?_
  refine ra_iconst rfl ?_
  refine ra_store (L' := [_, _, _]) rfl rfl rfl (Nat.le_of_ble_eq_true rfl) rfl ?_
  exact ra_weak (by repeat' constructor) (l4_203_4 hld _ (0) (0) (by first | omega | (unfold ra_in at *; omega)) (by first | omega | (unfold ra_in at *; omega)) (by first | omega | (unfold ra_in at *; omega)) (Nat.lt_succ_self _))
theorem l4_196_2 {n : Nat} {f : Nat → Int32} {d : Nat} {x0 : Int} {σ : ra_V} (hx0 : ra_in x0) (hb : 64 ≤ x0 ∧ x0 ≤ 600) : ∀ (nn : Nat) (v2 : Int) (s : ra_V) (hv2_0 : 0 ≤ v2) (hv2_1 : v2 ≤ 688) (hF : Fr (180) (181) σ s) (hc : ∀ a : Nat, (a : Int) < v2 → ra_g s 180 a = 0) (hm : ((688 - v2 : Int)).toNat < nn), ra_P (g_Gs n f) g_sh 0 (d + 0) g_m_X8_clear 2 [some (.index (179)), some (ra_I x0), some (ra_I v2)] [] s (fun r9 s => rV r9 ∧ Fr (180) (181) σ s ∧ WF s ∧ (∀ a, a < 88 → a ≠ 0 → a ≠ 3 → a ≠ 4 → a ≠ 16 → ra_g s 180 a = 0) ∧ ra_g s 180 3 = 1 ∧ ra_g s 180 4 = 4) := by
  intro nn
  induction nn with
  | zero => intro v2 s hv2_0 hv2_1 hF hc hm; exact absurd hm (Nat.not_lt_zero _)
  | succ nn ih =>
    intro v2 s hv2_0 hv2_1 hF hc hm
    refine ra_load rfl rfl rfl rfl ?_
    refine ra_sipush rfl (by decide) ?_
    refine ra_icge rfl rfl (by first | omega | (unfold ra_in at *; omega)) (by first | omega | (unfold ra_in at *; omega)) (fun h1 => ?_) (fun h1 => ?_)
    · refine ra_load rfl rfl rfl rfl ?_
      refine ra_getR rfl lk_8_7 (Nat.zero_le _) sh_179 rfl ?_
      refine ra_iconst rfl ?_
      refine ra_load rfl rfl rfl rfl ?_
      refine ra_iastoreJ (j := 0) rfl sh_180 rfl (by decide) rfl (by decide) ?_
      refine ra_newR hx0 (fun s2 hs2 hs2v hs2o => ?_)
      have hF3 := Fr_tr (lo := 180) (hi := 181) hF hs2 (by omega)
      refine ra_load rfl rfl rfl rfl ?_
      refine ra_getR rfl lk_8_7 (Nat.zero_le _) sh_179 rfl ?_
      refine ra_iconst rfl ?_
      refine ra_iconst rfl ?_
      refine ra_iastoreJ (j := 3) rfl sh_180 rfl (by decide) rfl (by decide) ?_
      refine ra_newR (by first | omega | (unfold ra_in at *; omega)) (fun s4 hs4 hs4v hs4o => ?_)
      have hF5 := Fr_tr (lo := 180) (hi := 181) hF3 hs4 (by omega)
      refine ra_load rfl rfl rfl rfl ?_
      refine ra_getR rfl lk_8_7 (Nat.zero_le _) sh_179 rfl ?_
      refine ra_iconst rfl ?_
      refine ra_iconst rfl ?_
      refine ra_iastoreJ (j := 4) rfl sh_180 rfl (by decide) rfl (by decide) ?_
      refine ra_newR (by first | omega | (unfold ra_in at *; omega)) (fun s6 hs6 hs6v hs6o => ?_)
      have hF7 := Fr_tr (lo := 180) (hi := 181) hF5 hs6 (by omega)
      refine ra_load rfl rfl rfl rfl ?_
      refine ra_getR rfl lk_8_7 (Nat.zero_le _) sh_179 rfl ?_
      refine ra_bipush rfl (by decide) ?_
      refine ra_iconst rfl ?_
      refine ra_iastoreJ (j := 16) rfl sh_180 rfl (by decide) rfl (by decide) ?_
      refine ra_newR (by first | omega | (unfold ra_in at *; omega)) (fun s8 hs8 hs8v hs8o => ?_)
      have hF9 := Fr_tr (lo := 180) (hi := 181) hF7 hs8 (by omega)
      exact ra_return rfl rfl ⟨rfl, ⟨hF9, wf_clear hb ((((hs8o 0 (by decide)).trans (hs6o 0 (by decide))).trans (hs4o 0 (by decide))).trans hs2v) (((hs8o 3 (by decide)).trans (hs6o 3 (by decide))).trans hs4v) ((hs8o 4 (by decide)).trans hs6v) hs8v (fun a h1 h2 h3 h4 h5 => (hs8o a h5).trans ((hs6o a h4).trans ((hs4o a h3).trans ((hs2o a h2).trans (hc a (by omega)))))), (fun a h1 h2 h3 h4 h5 => (hs8o a h5).trans ((hs6o a h4).trans ((hs4o a h3).trans ((hs2o a h2).trans (hc a (by omega)))))), (hs8o 3 (by decide)).trans ((hs6o 3 (by decide)).trans hs4v), (hs8o 4 (by decide)).trans hs6v⟩⟩
    · refine ra_load rfl rfl rfl rfl ?_
      refine ra_getR rfl lk_8_7 (Nat.zero_le _) sh_179 rfl ?_
      refine ra_load rfl rfl rfl rfl ?_
      refine ra_iconst rfl ?_
      refine ra_iastore rfl sh_180 rfl (by decide) (by first | omega | (unfold ra_in at *; omega)) (by first | omega | (unfold ra_in at *; omega)) ?_
      refine ra_newR (by first | omega | (unfold ra_in at *; omega)) (fun s10 hs10 hs10v hs10o => ?_)
      have hF11 := Fr_tr (lo := 180) (hi := 181) hF hs10 (by omega)
      refine ra_iinc (L' := [_, _, _]) rfl rfl (Nat.le_of_ble_eq_true rfl) rfl ?_
      refine ra_goto rfl rfl ?_
      exact ra_weak (by repeat' constructor) (ih (v2 + 1) s10 (by first | omega | (unfold ra_in at *; omega)) (by first | omega | (unfold ra_in at *; omega)) hF11 (fun a h => if e : a = v2.toNat then (by rw [e]; exact hs10v) else (hs10o a e).trans (hc a (by omega))) (by first | omega | (unfold ra_in at *; omega)))
theorem s4_196 {n : Nat} {f : Nat → Int32} {d : Nat} {x0 : Int} {σ : ra_V} (hx0 : ra_in x0) (hb : 64 ≤ x0 ∧ x0 ≤ 600) : ra_C (g_Gs n f) g_sh 0 (d + 1) 196 [.index (179), ra_I x0] σ (fun r9 s => rV r9 ∧ Fr (180) (181) σ s ∧ WF s ∧ (∀ a, a < 88 → a ≠ 0 → a ≠ 3 → a ≠ 4 → a ≠ 16 → ra_g s 180 a = 0) ∧ ra_g s 180 3 = 1 ∧ ra_g s 180 4 = 4) := by
  refine ra_enter (nn := 1) mt_196 rfl (Nat.le_of_ble_eq_true rfl) rfl (fun h => absurd h (by decide +kernel)) ?_
  refine ra_iconst rfl ?_
  refine ra_store (L' := [_, _, _]) rfl rfl rfl (Nat.le_of_ble_eq_true rfl) rfl ?_
  exact ra_weak (by repeat' constructor) (l4_196_2 hx0 hb _ (0) σ (by first | omega | (unfold ra_in at *; omega)) (by first | omega | (unfold ra_in at *; omega)) Fr_rf (fun a h => by omega) (Nat.lt_succ_self _))
theorem s4_262 {n : Nat} {f : Nat → Int32} {d : Nat}  {σ : ra_V} (hw : WF σ) (hpw : PW σ) (hn0 : 0 ≤ ra_g σ 179 12 ∧ ra_g σ 179 12 ≤ 500) (hB : x4TR σ B bn) : ra_C (g_Gs n f) g_sh 0 (d + 9) 262 [.index (179)] σ (fun r9 s => r9 = .inl (some (ra_I (tx_ans (tx_text B bn)))) ∧ Fr (179) (189) σ s ∧ s (183) = σ (183) ∧ (∀ a, a ≠ 5 → a ≠ 6 → a ≠ 7 → a ≠ 12 → a ≠ 13 → a ≠ 14 → a ≠ 15 → a ≠ 16 → a ≠ 17 → a ≠ 18 → a ≠ 19 → a ≠ 20 → a ≠ 21 → ra_g s 179 a = ra_g σ 179 a) ∧ ra_g s 179 12 = 0 ∧ (ra_g s 179 6 ≠ 0 → ra_g σ 179 6 ≠ 0) ∧ WF s ∧ PW s ∧ ra_g s 179 13 = tx_err (tx_text B bn) ∧ ra_g s 179 14 = tx_off (tx_text B bn)) := by
  refine ra_enter (nn := 1) mt_262 rfl (Nat.le_of_ble_eq_true rfl) rfl (fun h => absurd h (by decide +kernel)) ?_
  refine ra_load rfl rfl rfl rfl ?_
  refine ra_iconst rfl ?_
  refine ra_putI rfl lk_8_51 (Nat.zero_le _) sh_179 rfl rfl ?_
  refine ra_newU (by first | omega | (unfold ra_in at *; omega)) (fun s1 hs1 hp2 hp2o => ?_)
  have hp2_12 := hp2o 12 (by decide)
  have hp2_17 := hp2o 17 (by decide)
  have hF3 := Fr_tr (lo := 179) (hi := 189) Fr_rf hs1 (by omega)
  have hk4 : s1 (183) = σ (183) := (hs1 (183) (by omega))
  have hk5 : s1 (184) = σ (184) := (hs1 (184) (by omega))
  have hk6 : s1 (187) = σ (187) := (hs1 (187) (by omega))
  refine ra_load rfl rfl rfl rfl ?_
  refine ra_getR rfl lk_8_7 (Nat.zero_le _) sh_179 rfl ?_
  refine ra_iconst rfl ?_
  refine ra_load rfl rfl rfl rfl ?_
  refine ra_getR rfl lk_8_13 (Nat.zero_le _) sh_179 rfl ?_
  refine ra_iconst rfl ?_
  refine ra_sipush rfl (by decide) ?_
  refine ra_cV (sp_195 sh_180 (by decide) (by first | omega | (unfold ra_in at *; omega)) sh_181 (by decide) (by first | omega | (unfold ra_in at *; omega)) (by first | omega | (unfold ra_in at *; omega)) (by first | assumption | rfl | omega) (by first | assumption | rfl | omega)) rfl (ct_195 rfl lk_8_57 (Or.inl rfl) (Nat.le_of_ble_eq_true rfl)) (fun s7 hs7 => ?_)
  obtain ⟨hf8, he9⟩ := hs7
  have hF10 := Fr_tr (lo := 179) (hi := 189) hF3 hf8 (by omega)
  have hk11 : s7 (183) = σ (183) := (hf8 (183) (by omega)).trans hk4
  have hk12 : s7 (184) = σ (184) := (hf8 (184) (by omega)).trans hk5
  have hk13 : s7 (187) = σ (187) := (hf8 (187) (by omega)).trans hk6
  have hk14 : s7 (179) = s1 (179) := (hf8 (179) (by omega))
  refine ra_load rfl rfl rfl rfl ?_
  refine ra_bipush rfl (by decide) ?_
  refine ra_cV (s4_196 (by first | omega | (unfold ra_in at *; omega)) (by first | assumption | rfl | omega)) rfl (ct_196 rfl lk_8_47 (Or.inl rfl) sh_179 (Nat.le_of_ble_eq_true rfl)) (fun s15 hs15 => ?_)
  obtain ⟨hf16, he17, he18, he19, he20⟩ := hs15
  have hF21 := Fr_tr (lo := 179) (hi := 189) hF10 hf16 (by omega)
  have hk22 : s15 (183) = σ (183) := (hf16 (183) (by omega)).trans hk11
  have hk23 : s15 (184) = σ (184) := (hf16 (184) (by omega)).trans hk12
  have hk24 : s15 (187) = σ (187) := (hf16 (187) (by omega)).trans hk13
  have hk25 : s15 (179) = s1 (179) := (hf16 (179) (by omega)).trans hk14
  have hl0 := LD_0 he17 he18
  have hl0b := hl0.2
  refine ra_load rfl rfl rfl rfl ?_
  refine ra_iconst rfl ?_
  refine ra_putI rfl lk_8_215 (Nat.zero_le _) sh_179 rfl rfl ?_
  refine ra_newU (by first | omega | (unfold ra_in at *; omega)) (fun s26 hs26 hp27 hp27o => ?_)
  have hp27_12 := hp27o 12 (by decide)
  rw [ra_gk hk25] at hp27_12
  have hp27_17 := hp27o 17 (by decide)
  rw [ra_gk hk25] at hp27_17
  have hF28 := Fr_tr (lo := 179) (hi := 189) hF21 hs26 (by omega)
  have hk29 : s26 (183) = σ (183) := (hs26 (183) (by omega)).trans hk22
  have hk30 : s26 (184) = σ (184) := (hs26 (184) (by omega)).trans hk23
  have hk31 : s26 (187) = σ (187) := (hs26 (187) (by omega)).trans hk24
  refine ra_load rfl rfl rfl rfl ?_
  refine ra_iconst rfl ?_
  refine ra_putI rfl lk_8_218 (Nat.zero_le _) sh_179 rfl rfl ?_
  refine ra_newU (by first | omega | (unfold ra_in at *; omega)) (fun s32 hs32 hp33 hp33o => ?_)
  have hp33_12 := hp33o 12 (by decide)
  have hp33_17 := hp33o 17 (by decide)
  have hF34 := Fr_tr (lo := 179) (hi := 189) hF28 hs32 (by omega)
  have hk35 : s32 (183) = σ (183) := (hs32 (183) (by omega)).trans hk29
  have hk36 : s32 (184) = σ (184) := (hs32 (184) (by omega)).trans hk30
  have hk37 : s32 (187) = σ (187) := (hs32 (187) (by omega)).trans hk31
  refine ra_load rfl rfl rfl rfl ?_
  refine ra_iconst rfl ?_
  refine ra_putI rfl lk_8_192 (Nat.zero_le _) sh_179 rfl rfl ?_
  refine ra_newU (by first | omega | (unfold ra_in at *; omega)) (fun s38 hs38 hp39 hp39o => ?_)
  have hp39_12 := hp39o 12 (by decide)
  have hF40 := Fr_tr (lo := 179) (hi := 189) hF34 hs38 (by omega)
  have hk41 : s38 (183) = σ (183) := (hs38 (183) (by omega)).trans hk35
  have hk42 : s38 (184) = σ (184) := (hs38 (184) (by omega)).trans hk36
  have hk43 : s38 (187) = σ (187) := (hs38 (187) (by omega)).trans hk37
  refine ra_load rfl rfl rfl rfl ?_
  refine ra_iconst rfl ?_
  refine ra_putI rfl lk_8_243 (Nat.zero_le _) sh_179 rfl rfl ?_
  refine ra_newU (by first | omega | (unfold ra_in at *; omega)) (fun s44 hs44 hp45 hp45o => ?_)
  have hp45_12 := hp45o 12 (by decide)
  have hp45_17 := hp45o 17 (by decide)
  have hF46 := Fr_tr (lo := 179) (hi := 189) hF40 hs44 (by omega)
  have hk47 : s44 (183) = σ (183) := (hs44 (183) (by omega)).trans hk41
  have hk48 : s44 (184) = σ (184) := (hs44 (184) (by omega)).trans hk42
  have hk49 : s44 (187) = σ (187) := (hs44 (187) (by omega)).trans hk43
  have q12 : ra_g s44 179 12 = ra_g σ 179 12 := ((hp45o 12 (by decide)).trans ((hp39o 12 (by decide)).trans ((hp33o 12 (by decide)).trans ((hp27o 12 (by decide)).trans ((ra_gk (hf16 179 (by omega))).trans ((ra_gk (hf8 179 (by omega))).trans (hp2o 12 (by decide))))))))
  have q17 : ra_g s44 179 17 = 0 := by omega
  refine ra_load rfl rfl rfl rfl ?_
  refine ra_cV (s4_250 (by omega) (x4TR_k ((hp45o 12 (by decide)).trans ((hp39o 12 (by decide)).trans ((hp33o 12 (by decide)).trans ((hp27o 12 (by decide)).trans ((ra_gk (hf16 179 (by omega))).trans ((ra_gk (hf8 179 (by omega))).trans (hp2o 12 (by decide)))))))) ((hs44 (187) (by omega)).trans ((hs38 (187) (by omega)).trans ((hs32 (187) (by omega)).trans ((hs26 (187) (by omega)).trans ((hf16 (187) (by omega)).trans ((hf8 (187) (by omega)).trans (hs1 (187) (by omega)))))))) hB) (show ra_g s44 179 17 = ((0 : Nat) : Int) by omega) (Nat.zero_le _)) rfl (ct_250 rfl lk_8_240 (Or.inl rfl) sh_179 (Nat.le_of_ble_eq_true rfl)) (fun s50 hs50 => ?_)
  obtain ⟨hf51, he52, he53, he54, he55⟩ := hs50
  have hF56 := Fr_tr (lo := 179) (hi := 189) hF46 hf51 (by omega)
  have hk57 : s50 (183) = σ (183) := (hf51 (183) (by omega)).trans hk47
  have hk58 : s50 (184) = σ (184) := (hf51 (184) (by omega)).trans hk48
  have hk59 : s50 (187) = σ (187) := (hf51 (187) (by omega)).trans hk49
  refine ra_load rfl rfl rfl rfl ?_
  refine ra_cQPs (s4_261 he53 (LD_k ((hf51 180 (by omega)).trans ((hs44 180 (by omega)).trans ((hs38 180 (by omega)).trans ((hs32 180 (by omega)).trans (hs26 180 (by omega)))))) hl0.1) ((ra_gk ((hf51 180 (by omega)).trans ((hs44 180 (by omega)).trans ((hs38 180 (by omega)).trans ((hs32 180 (by omega)).trans (hs26 180 (by omega))))))).trans hl0b) (x4TR_k ((he52 12 (by decide) (by decide) (by decide) (by decide)).trans ((hp45o 12 (by decide)).trans ((hp39o 12 (by decide)).trans ((hp33o 12 (by decide)).trans ((hp27o 12 (by decide)).trans ((ra_gk (hf16 179 (by omega))).trans ((ra_gk (hf8 179 (by omega))).trans (hp2o 12 (by decide))))))))) ((hf51 (187) (by omega)).trans ((hs44 (187) (by omega)).trans ((hs38 (187) (by omega)).trans ((hs32 (187) (by omega)).trans ((hs26 (187) (by omega)).trans ((hf16 (187) (by omega)).trans ((hf8 (187) (by omega)).trans (hs1 (187) (by omega))))))))) hB) he55 ⟨((ra_gk ((hf51 (180) (by omega)).trans ((hs44 (180) (by omega)).trans ((hs38 (180) (by omega)).trans ((hs32 (180) (by omega)).trans (hs26 (180) (by omega))))))).trans (he18 1 (by decide) (by decide) (by decide) (by decide) (by decide))), ((ra_gk ((hf51 (180) (by omega)).trans ((hs44 (180) (by omega)).trans ((hs38 (180) (by omega)).trans ((hs32 (180) (by omega)).trans (hs26 (180) (by omega))))))).trans (he18 2 (by decide) (by decide) (by decide) (by decide) (by decide))), ((ra_gk ((hf51 (180) (by omega)).trans ((hs44 (180) (by omega)).trans ((hs38 (180) (by omega)).trans ((hs32 (180) (by omega)).trans (hs26 (180) (by omega))))))).trans he19), ((ra_gk ((hf51 (180) (by omega)).trans ((hs44 (180) (by omega)).trans ((hs38 (180) (by omega)).trans ((hs32 (180) (by omega)).trans (hs26 (180) (by omega))))))).trans he20), ((ra_gk ((hf51 (180) (by omega)).trans ((hs44 (180) (by omega)).trans ((hs38 (180) (by omega)).trans ((hs32 (180) (by omega)).trans (hs26 (180) (by omega))))))).trans (he18 5 (by decide) (by decide) (by decide) (by decide) (by decide)))⟩ ⟨(((he52 15 (by decide) (by decide) (by decide) (by decide)).trans ((hp45o 15 (by decide)).trans ((hp39o 15 (by decide)).trans (hp33o 15 (by decide))))).trans hp27), (((he52 16 (by decide) (by decide) (by decide) (by decide)).trans ((hp45o 16 (by decide)).trans (hp39o 16 (by decide)))).trans hp33), ((he52 21 (by decide) (by decide) (by decide) (by decide)).trans hp45)⟩) rfl (ct_261 rfl lk_8_288 (Or.inl rfl) sh_179 (Nat.le_of_ble_eq_true rfl)) (fun z61 s60 hz61 hz61p hs60 => ?_)
  obtain ⟨hf62, hc63, hc64, hc65, hc66, he67, he68, he69, he70, he71⟩ := hs60
  have hF72 := Fr_tr (lo := 179) (hi := 189) hF56 hf62 (by omega)
  have hk73 : s60 (183) = σ (183) := hc65.trans hk57
  have hk74 : s60 (184) = σ (184) := hc66.trans hk58
  refine ra_store (L' := [_, _]) rfl rfl rfl (Nat.le_of_ble_eq_true rfl) rfl ?_
  refine ra_load rfl rfl rfl rfl ?_
  refine ra_iconst rfl ?_
  refine ra_putI rfl lk_8_186 (Nat.zero_le _) sh_179 rfl rfl ?_
  refine ra_newU (by first | omega | (unfold ra_in at *; omega)) (fun s75 hs75 hp76 hp76o => ?_)
  have hp76_17 := hp76o 17 (by decide)
  have hF77 := Fr_tr (lo := 179) (hi := 189) hF72 hs75 (by omega)
  have hk78 : s75 (183) = σ (183) := (hs75 (183) (by omega)).trans hk73
  have hk79 : s75 (184) = σ (184) := (hs75 (184) (by omega)).trans hk74
  refine ra_load rfl rfl rfl rfl ?_
  refine ra_load rfl rfl rfl rfl ?_
  refine ra_getI rfl lk_8_215 (Nat.zero_le _) sh_179 rfl ?_
  have hr80 : ra_in (ra_g s75 (179) 15) := (ra_in_g _ _ _)
  refine ra_putI rfl lk_8_291 (Nat.zero_le _) sh_179 rfl rfl ?_
  refine ra_newU hr80 (fun s81 hs81 hp82 hp82o => ?_)
  have hp82_12 := hp82o 12 (by decide)
  have hp82_17 := hp82o 17 (by decide)
  have hF83 := Fr_tr (lo := 179) (hi := 189) hF77 hs81 (by omega)
  have hk84 : s81 (183) = σ (183) := (hs81 (183) (by omega)).trans hk78
  have hk85 : s81 (184) = σ (184) := (hs81 (184) (by omega)).trans hk79
  refine ra_load rfl rfl rfl rfl ?_
  refine ra_load rfl rfl rfl rfl ?_
  refine ra_getI rfl lk_8_218 (Nat.zero_le _) sh_179 rfl ?_
  have hr86 : ra_in (ra_g s81 (179) 16) := (ra_in_g _ _ _)
  refine ra_putI rfl lk_8_34 (Nat.zero_le _) sh_179 rfl rfl ?_
  refine ra_newU hr86 (fun s87 hs87 hp88 hp88o => ?_)
  have hp88_12 := hp88o 12 (by decide)
  have hp88_17 := hp88o 17 (by decide)
  have hF89 := Fr_tr (lo := 179) (hi := 189) hF83 hs87 (by omega)
  have hk90 : s87 (183) = σ (183) := (hs87 (183) (by omega)).trans hk84
  have hk91 : s87 (184) = σ (184) := (hs87 (184) (by omega)).trans hk85
  refine ra_load rfl rfl rfl rfl ?_
  refine ra_ifne rfl rfl (ra_in01 hz61) (fun h92 => ?_) (fun h92 => ?_)
  · refine ra_load rfl rfl rfl rfl ?_
    refine ra_iconst rfl ?_
    refine ra_putI rfl lk_8_54 (Nat.zero_le _) sh_179 rfl rfl ?_
    refine ra_newU (by first | omega | (unfold ra_in at *; omega)) (fun s93 hs93 hp94 hp94o => ?_)
    have hp94_12 := hp94o 12 (by decide)
    have hp94_17 := hp94o 17 (by decide)
    have hF95 := Fr_tr (lo := 179) (hi := 189) hF89 hs93 (by omega)
    have hk96 : s93 (183) = σ (183) := (hs93 (183) (by omega)).trans hk90
    have hk97 : s93 (184) = σ (184) := (hs93 (184) (by omega)).trans hk91
    refine ra_load rfl rfl rfl rfl ?_
    refine ra_iconst rfl ?_
    refine ra_putB rfl lk_8_294 (Nat.zero_le _) sh_179 rfl rfl (Or.inl rfl) ?_
    refine ra_newU (ra_in01 (Or.inl rfl)) (fun s98 hs98 hp99 hp99o => ?_)
    have hp99_12 := hp99o 12 (by decide)
    have hp99_17 := hp99o 17 (by decide)
    have hF100 := Fr_tr (lo := 179) (hi := 189) hF95 hs98 (by omega)
    have hk101 : s98 (183) = σ (183) := (hs98 (183) (by omega)).trans hk96
    have hk102 : s98 (184) = σ (184) := (hs98 (184) (by omega)).trans hk97
    refine ra_load rfl rfl rfl rfl ?_
    refine ra_cIPp (s4_203 (LD_k ((hs98 (180) (by omega)).trans ((hs93 (180) (by omega)).trans ((hs87 (180) (by omega)).trans ((hs81 (180) (by omega)).trans (hs75 (180) (by omega)))))) he68)) rfl (ct_203 rfl lk_8_298 (Or.inl rfl) sh_179 (Nat.le_of_ble_eq_true rfl)) (fun z104 hz104 hz104p => ?_)
    exact ra_ireturn rfl rfl ⟨(congrArg (fun z => Sum.inl (some (ra_I z))) (x4rp_y hz61p (by omega) (hz104p.trans (ra_gk ((hs98 (180) (by omega)).trans ((hs93 (180) (by omega)).trans ((hs87 (180) (by omega)).trans ((hs81 (180) (by omega)).trans (hs75 (180) (by omega)))))))))), ⟨hF100, hk101, (fun a h5 h6 h7 h12 h13 h14 h15 h16 h17 h18 h19 h20 h21 => ((hp99o a (by assumption)).trans ((hp94o a (by assumption)).trans ((hp88o a (by assumption)).trans ((hp82o a (by assumption)).trans ((hp76o a (by assumption)).trans ((he67 a h15 h16 h17 h18 h19 h20 h21).trans ((he52 a h17 h18 h19 h20).trans ((hp45o a (by assumption)).trans ((hp39o a (by assumption)).trans ((hp33o a (by assumption)).trans ((hp27o a (by assumption)).trans ((ra_gk (hf16 179 (by omega))).trans ((ra_gk (hf8 179 (by omega))).trans (hp2o a (by assumption)))))))))))))))), (((hp99o 12 (by decide)).trans ((hp94o 12 (by decide)).trans ((hp88o 12 (by decide)).trans (hp82o 12 (by decide))))).trans hp76), (fun q => absurd hp99 q), (LD_k ((hs98 180 (by omega)).trans ((hs93 180 (by omega)).trans ((hs87 180 (by omega)).trans ((hs81 180 (by omega)).trans (hs75 180 (by omega)))))) he68).1, (pw_0 ((hp99o 5 (by decide)).trans hp94)), ((((hp99o 13 (by decide)).trans ((hp94o 13 (by decide)).trans (hp88o 13 (by decide))))).trans (hp82.trans (((hp76o 15 (by decide))).trans (x4rp_2 hz61p)))), ((((hp99o 14 (by decide)).trans (hp94o 14 (by decide)))).trans (hp88.trans ((((hp82o 16 (by decide)).trans (hp76o 16 (by decide)))).trans (x4rp_3 hz61p))))⟩⟩
  · refine ra_load rfl rfl rfl rfl ?_
    refine ra_getR rfl lk_8_13 (Nat.zero_le _) sh_179 rfl ?_
    refine ra_iconst rfl ?_
    refine ra_load rfl rfl rfl rfl ?_
    refine ra_getR rfl lk_8_7 (Nat.zero_le _) sh_179 rfl ?_
    refine ra_iconst rfl ?_
    refine ra_sipush rfl (by decide) ?_
    refine ra_cV (sp_195 sh_181 (by decide) (by first | omega | (unfold ra_in at *; omega)) sh_180 (by decide) (by first | omega | (unfold ra_in at *; omega)) (by first | omega | (unfold ra_in at *; omega)) (by first | assumption | rfl | omega) (by first | assumption | rfl | omega)) rfl (ct_195 rfl lk_8_57 (Or.inl rfl) (Nat.le_of_ble_eq_true rfl)) (fun s105 hs105 => ?_)
    obtain ⟨hf106, he107⟩ := hs105
    have hF108 := Fr_tr (lo := 179) (hi := 189) hF89 hf106 (by omega)
    have hk109 : s105 (183) = σ (183) := (hf106 (183) (by omega)).trans hk90
    have hk110 : s105 (184) = σ (184) := (hf106 (184) (by omega)).trans hk91
    have hk111 : s105 (179) = s87 (179) := (hf106 (179) (by omega))
    refine ra_iconst rfl ?_
    exact ra_ireturn rfl rfl ⟨(congrArg (fun z => Sum.inl (some (ra_I z))) (x4rp_m hz61p (by omega))), ⟨hF108, hk109, (fun a h5 h6 h7 h12 h13 h14 h15 h16 h17 h18 h19 h20 h21 => ((ra_gk (hf106 179 (by omega))).trans ((hp88o a (by assumption)).trans ((hp82o a (by assumption)).trans ((hp76o a (by assumption)).trans ((he67 a h15 h16 h17 h18 h19 h20 h21).trans ((he52 a h17 h18 h19 h20).trans ((hp45o a (by assumption)).trans ((hp39o a (by assumption)).trans ((hp33o a (by assumption)).trans ((hp27o a (by assumption)).trans ((ra_gk (hf16 179 (by omega))).trans ((ra_gk (hf8 179 (by omega))).trans (hp2o a (by assumption))))))))))))))), (((ra_gk (hf106 179 (by omega))).trans ((hp88o 12 (by decide)).trans (hp82o 12 (by decide)))).trans hp76), (fun q => by have e := ((ra_gk (hf106 179 (by omega))).trans ((hp88o 6 (by decide)).trans ((hp82o 6 (by decide)).trans ((hp76o 6 (by decide)).trans ((he67 6 (by decide) (by decide) (by decide) (by decide) (by decide) (by decide) (by decide)).trans ((he52 6 (by decide) (by decide) (by decide) (by decide)).trans ((hp45o 6 (by decide)).trans ((hp39o 6 (by decide)).trans ((hp33o 6 (by decide)).trans ((hp27o 6 (by decide)).trans ((ra_gk (hf16 179 (by omega))).trans ((ra_gk (hf8 179 (by omega))).trans (hp2o 6 (by decide)))))))))))))); omega), (kp_w hw (hs1 180 (by omega)) he9 ((hs87 181 (by omega)).trans ((hs81 181 (by omega)).trans ((hs75 181 (by omega)).trans (hc63.trans ((hf51 181 (by omega)).trans ((hs44 181 (by omega)).trans ((hs38 181 (by omega)).trans ((hs32 181 (by omega)).trans ((hs26 181 (by omega)).trans (hf16 181 (by omega))))))))))) he107), (PW_k hpw ((ra_gk (hf106 179 (by omega))).trans ((hp88o 5 (by decide)).trans ((hp82o 5 (by decide)).trans ((hp76o 5 (by decide)).trans ((he67 5 (by decide) (by decide) (by decide) (by decide) (by decide) (by decide) (by decide)).trans ((he52 5 (by decide) (by decide) (by decide) (by decide)).trans ((hp45o 5 (by decide)).trans ((hp39o 5 (by decide)).trans ((hp33o 5 (by decide)).trans ((hp27o 5 (by decide)).trans ((ra_gk (hf16 179 (by omega))).trans ((ra_gk (hf8 179 (by omega))).trans (hp2o 5 (by decide)))))))))))))) hk110), ((((ra_gk (hf106 179 (by omega))).trans (hp88o 13 (by decide)))).trans (hp82.trans (((hp76o 15 (by decide))).trans (x4rp_2 hz61p)))), (((ra_gk (hf106 179 (by omega)))).trans (hp88.trans ((((hp82o 16 (by decide)).trans (hp76o 16 (by decide)))).trans (x4rp_3 hz61p))))⟩⟩
end
end
