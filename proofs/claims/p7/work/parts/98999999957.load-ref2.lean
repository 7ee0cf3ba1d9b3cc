/-! T5: the reference's loadDisk (printed by wip/gen/r10.py) -/
section
variable {B : Nat → Int} {bn ps ta ti : Nat} {r : Nat → Int}
theorem l9_210_3 {n : Nat} {f : Nat → Int32} {d : Nat} {x0 : Int} {x1 : Int} {x2 : Int} {x3 : Int} {σ : ra_V} (hx0 : ra_in x0) (hx1 : ra_in x1) (hx2 : ra_in x2) (hx3 : ra_in x3) (hx : ∃ q, 0 ≤ q ∧ q < 8 ∧ wq σ q 0 ≠ 1) (hn : 0 ≤ x0 ∧ 1 ≤ x1 ∧ x0 + x1 ≤ 600) (h5 : 0 ≤ ra_g σ 180 5 ∧ ra_g σ 180 5 ≤ 8) : ∀ (nn : Nat) (v5 : Int) (hv5_0 : 0 ≤ v5) (hv5_1 : ∀ r, 0 ≤ r → r < v5 → wq σ r 0 = 1) (hm : ((8 - v5 : Int)).toNat < nn), ra_P (g_Gs n f) g_sh 0 (d + 3) g_m_X8_makes 3 [some (.index (179)), some (ra_I x0), some (ra_I x1), some (ra_I x2), some (ra_I x3), some (ra_I v5)] [] σ (fun r9 s => (∃ z, ra_in z ∧ (MK2 σ s z x0 x1 x3 ∧ (wq s z 5 = 0 ∧ wq s z 4 = x2 ∧ wq s z 6 = ra_g σ 180 5 ∧ wq s z 7 = 0)) ∧ r9 = .inl (some (ra_I z))) ∧ Fr (180) (181) σ s) := by
  intro nn
  induction nn with
  | zero => intro v5 hv5_0 hv5_1 hm; exact absurd hm (Nat.not_lt_zero _)
  | succ nn ih =>
    intro v5 hv5_0 hv5_1 hm
    have hv8 : v5 < 8 := free_lt hx hv5_1
    refine ra_load rfl rfl rfl rfl ?_
    refine ra_load rfl rfl rfl rfl ?_
    refine ra_iconst rfl ?_
    refine ra_cTp (sp_200 (by first | omega | (unfold ra_in at *; omega)) (by first | omega | (unfold ra_in at *; omega)) (by first | assumption | rfl | omega)) rfl (ct_200 rfl lk_8_67 (Or.inl rfl) sh_179 (Nat.le_of_ble_eq_true rfl)) ?_
    have hr2 : ra_in (wq σ v5 (0)) := (ra_in_wq _ _ _)
    refine ra_iconst rfl ?_
    refine ra_icne rfl rfl hr2 (by first | omega | (unfold ra_in at *; omega)) (fun h3 => ?_) (fun h3 => ?_)
    · refine ra_load rfl rfl rfl rfl ?_
      refine ra_load rfl rfl rfl rfl ?_
      refine ra_iconst rfl ?_
      refine ra_iconst rfl ?_
      refine ra_cV (sp_201 (by first | omega | (unfold ra_in at *; omega)) (by first | omega | (unfold ra_in at *; omega)) (by first | omega | (unfold ra_in at *; omega)) (by first | assumption | rfl | omega)) rfl (ct_201 rfl lk_8_78 (Or.inl rfl) sh_179 (Nat.le_of_ble_eq_true rfl)) (fun s4 hs4 => ?_)
      obtain ⟨hf5, he6, he7⟩ := hs4
      have hF8 := Fr_tr (lo := 180) (hi := 181) Fr_rf hf5 (by omega)
      refine ra_load rfl rfl rfl rfl ?_
      refine ra_load rfl rfl rfl rfl ?_
      refine ra_iconst rfl ?_
      refine ra_load rfl rfl rfl rfl ?_
      refine ra_cV (sp_201 (by first | omega | (unfold ra_in at *; omega)) (by first | omega | (unfold ra_in at *; omega)) hx0 (by first | assumption | rfl | omega)) rfl (ct_201 rfl lk_8_78 (Or.inl rfl) sh_179 (Nat.le_of_ble_eq_true rfl)) (fun s9 hs9 => ?_)
      obtain ⟨hf10, he11, he12⟩ := hs9
      have hF13 := Fr_tr (lo := 180) (hi := 181) hF8 hf10 (by omega)
      refine ra_load rfl rfl rfl rfl ?_
      refine ra_load rfl rfl rfl rfl ?_
      refine ra_iconst rfl ?_
      refine ra_load rfl rfl rfl rfl ?_
      refine ra_cV (sp_201 (by first | omega | (unfold ra_in at *; omega)) (by first | omega | (unfold ra_in at *; omega)) hx1 (by first | assumption | rfl | omega)) rfl (ct_201 rfl lk_8_78 (Or.inl rfl) sh_179 (Nat.le_of_ble_eq_true rfl)) (fun s14 hs14 => ?_)
      obtain ⟨hf15, he16, he17⟩ := hs14
      have hF18 := Fr_tr (lo := 180) (hi := 181) hF13 hf15 (by omega)
      refine ra_load rfl rfl rfl rfl ?_
      refine ra_load rfl rfl rfl rfl ?_
      refine ra_iconst rfl ?_
      refine ra_load rfl rfl rfl rfl ?_
      refine ra_cV (sp_201 (by first | omega | (unfold ra_in at *; omega)) (by first | omega | (unfold ra_in at *; omega)) hx3 (by first | assumption | rfl | omega)) rfl (ct_201 rfl lk_8_78 (Or.inl rfl) sh_179 (Nat.le_of_ble_eq_true rfl)) (fun s19 hs19 => ?_)
      obtain ⟨hf20, he21, he22⟩ := hs19
      have hF23 := Fr_tr (lo := 180) (hi := 181) hF18 hf20 (by omega)
      refine ra_load rfl rfl rfl rfl ?_
      refine ra_load rfl rfl rfl rfl ?_
      refine ra_iconst rfl ?_
      refine ra_load rfl rfl rfl rfl ?_
      refine ra_cV (sp_201 (by first | omega | (unfold ra_in at *; omega)) (by first | omega | (unfold ra_in at *; omega)) hx2 (by first | assumption | rfl | omega)) rfl (ct_201 rfl lk_8_78 (Or.inl rfl) sh_179 (Nat.le_of_ble_eq_true rfl)) (fun s24 hs24 => ?_)
      obtain ⟨hf25, he26, he27⟩ := hs24
      have hF28 := Fr_tr (lo := 180) (hi := 181) hF23 hf25 (by omega)
      refine ra_load rfl rfl rfl rfl ?_
      refine ra_load rfl rfl rfl rfl ?_
      refine ra_iconst rfl ?_
      refine ra_iconst rfl ?_
      refine ra_cV (sp_201 (by first | omega | (unfold ra_in at *; omega)) (by first | omega | (unfold ra_in at *; omega)) (by first | omega | (unfold ra_in at *; omega)) (by first | assumption | rfl | omega)) rfl (ct_201 rfl lk_8_78 (Or.inl rfl) sh_179 (Nat.le_of_ble_eq_true rfl)) (fun s29 hs29 => ?_)
      obtain ⟨hf30, he31, he32⟩ := hs29
      have hF33 := Fr_tr (lo := 180) (hi := 181) hF28 hf30 (by omega)
      refine ra_load rfl rfl rfl rfl ?_
      refine ra_load rfl rfl rfl rfl ?_
      refine ra_bipush rfl (by decide) ?_
      refine ra_load rfl rfl rfl rfl ?_
      refine ra_getR rfl lk_8_7 (Nat.zero_le _) sh_179 rfl ?_
      refine ra_iconst rfl ?_
      refine ra_ialoadJ (j := 5) rfl sh_180 rfl (by decide) rfl (by decide) ?_
      have hr34 : ra_in (ra_g s29 (180) 5) := (ra_in_g _ _ _)
      refine ra_cV (sp_201 (by first | omega | (unfold ra_in at *; omega)) (by first | omega | (unfold ra_in at *; omega)) hr34 (by first | assumption | rfl | omega)) rfl (ct_201 rfl lk_8_78 (Or.inl rfl) sh_179 (Nat.le_of_ble_eq_true rfl)) (fun s35 hs35 => ?_)
      obtain ⟨hf36, he37, he38⟩ := hs35
      have hF39 := Fr_tr (lo := 180) (hi := 181) hF33 hf36 (by omega)
      refine ra_load rfl rfl rfl rfl ?_
      refine ra_load rfl rfl rfl rfl ?_
      refine ra_bipush rfl (by decide) ?_
      refine ra_iconst rfl ?_
      refine ra_cV (sp_201 (by first | omega | (unfold ra_in at *; omega)) (by first | omega | (unfold ra_in at *; omega)) (by first | omega | (unfold ra_in at *; omega)) (by first | assumption | rfl | omega)) rfl (ct_201 rfl lk_8_78 (Or.inl rfl) sh_179 (Nat.le_of_ble_eq_true rfl)) (fun s40 hs40 => ?_)
      obtain ⟨hf41, he42, he43⟩ := hs40
      have hF44 := Fr_tr (lo := 180) (hi := 181) hF39 hf41 (by omega)
      refine ra_load rfl rfl rfl rfl ?_
      have e5 : ra_g s40 180 5 = ra_g σ 180 5 := ((he43 5 (by omega)).trans ((he38 5 (by omega)).trans ((he32 5 (by omega)).trans ((he27 5 (by omega)).trans ((he22 5 (by omega)).trans ((he17 5 (by omega)).trans ((he12 5 (by omega)).trans (he7 5 (by omega)))))))))
      refine ra_getR rfl lk_8_7 (Nat.zero_le _) sh_179 rfl ?_
      refine ra_iconst rfl ?_
      refine ra_dup2 rfl rfl rfl ?_
      refine ra_ialoadJ (j := 5) rfl sh_180 rfl (by decide) rfl (by decide) ?_
      have hr45 : ra_in (ra_g s40 (180) 5) := (ra_in_g _ _ _)
      refine ra_iconst rfl ?_
      refine ra_iadd rfl ?_
      refine ra_iastoreJ (j := 5) rfl sh_180 rfl (by decide) rfl (by decide) ?_
      refine ra_newR (by first | omega | (unfold ra_in at *; omega)) (fun s46 hs46 hs46v hs46o => ?_)
      have hF47 := Fr_tr (lo := 180) (hi := 181) hF44 hs46 (by omega)
      refine ra_load rfl rfl rfl rfl ?_
      refine ra_load rfl rfl rfl rfl ?_
      refine ra_iconst rfl ?_
      refine ra_cV (sp_209 (by first | omega | (unfold ra_in at *; omega)) (by first | omega | (unfold ra_in at *; omega)) (by first | assumption | rfl | omega) (by have := mk_chain (a := x0) (m := x1) (mn := x3) ⟨by omega, by omega, by omega⟩ he6 he7 he11 he12 he16 he17 he21 he22 he27 he32 he38 he43 hs46o SC_rf; obtain ⟨-, -, t1, t2, -⟩ := this; omega) (by first | assumption | rfl | omega)) rfl (ct_209 rfl lk_8_82 (Or.inl rfl) sh_179 (Nat.le_of_ble_eq_true rfl)) (fun s48 hs48 => ?_)
      obtain ⟨hf49, he50⟩ := hs48
      have hF51 := Fr_tr (lo := 180) (hi := 181) hF47 hf49 (by omega)
      refine ra_load rfl rfl rfl rfl ?_
      exact ra_ireturn rfl rfl ⟨⟨_, (by first | omega | (unfold ra_in at *; omega)), ⟨⟨(mk_chain ⟨by omega, by omega, by omega⟩ he6 he7 he11 he12 he16 he17 he21 he22 he27 he32 he38 he43 hs46o he50), ((he50 5 (by decide)).trans (by have t := hs46v; omega)), hv5_1⟩, ((he50 _ (by omega)).trans ((hs46o _ (by omega)).trans ((he43 _ (by omega)).trans ((he38 _ (by omega)).trans he31)))), ((he50 _ (by omega)).trans ((hs46o _ (by omega)).trans ((he43 _ (by omega)).trans ((he38 _ (by omega)).trans ((he32 _ (by omega)).trans he26))))), (((he50 _ (by omega)).trans ((hs46o _ (by omega)).trans ((he43 _ (by omega)).trans he37)))).trans ((he32 5 (by omega)).trans ((he27 5 (by omega)).trans ((he22 5 (by omega)).trans ((he17 5 (by omega)).trans ((he12 5 (by omega)).trans (he7 5 (by omega))))))), ((he50 _ (by omega)).trans ((hs46o _ (by omega)).trans he42))⟩, rfl⟩, hF51⟩
    · refine ra_iinc (L' := [_, _, _, _, _, _]) rfl rfl (Nat.le_of_ble_eq_true rfl) rfl ?_
      refine ra_goto rfl rfl ?_
      exact ra_weak (by repeat' constructor) (ih (v5 + 1) (by first | omega | (unfold ra_in at *; omega)) (fun r a b => if e : r = v5 then (by rw [e]; omega) else hv5_1 r a (by omega)) (by first | omega | (unfold ra_in at *; omega)))
theorem s9_210 {n : Nat} {f : Nat → Int32} {d : Nat} {x0 : Int} {x1 : Int} {x2 : Int} {x3 : Int} {σ : ra_V} (hx0 : ra_in x0) (hx1 : ra_in x1) (hx2 : ra_in x2) (hx3 : ra_in x3) (hx : ∃ q, 0 ≤ q ∧ q < 8 ∧ wq σ q 0 ≠ 1) (hn : 0 ≤ x0 ∧ 1 ≤ x1 ∧ x0 + x1 ≤ 600) (h5 : 0 ≤ ra_g σ 180 5 ∧ ra_g σ 180 5 ≤ 8) : ra_C (g_Gs n f) g_sh 0 (d + 4) 210 [.index (179), ra_I x0, ra_I x1, ra_I x2, ra_I x3] σ (fun r9 s => (∃ z, ra_in z ∧ (MK2 σ s z x0 x1 x3 ∧ (wq s z 5 = 0 ∧ wq s z 4 = x2 ∧ wq s z 6 = ra_g σ 180 5 ∧ wq s z 7 = 0)) ∧ r9 = .inl (some (ra_I z))) ∧ Fr (180) (181) σ s) := by
  refine ra_enter (nn := 1) mt_210 rfl (Nat.le_of_ble_eq_true rfl) rfl (fun h => absurd h (by decide +kernel)) ?_
  refine ra_iconst rfl ?_
  refine ra_store (L' := [_, _, _, _, _, _]) rfl rfl rfl (Nat.le_of_ble_eq_true rfl) rfl ?_
  exact ra_weak (by repeat' constructor) (l9_210_3 hx0 hx1 hx2 hx3 hx hn h5 _ (0) (by first | omega | (unfold ra_in at *; omega)) (fun r a b => by omega) (Nat.lt_succ_self _))
theorem s9_256 {n : Nat} {f : Nat → Int32} {d : Nat} {x0 : Int} {x1 : Int} {x2 : Int} {x3 : Int} {σ : ra_V} (hx0 : ra_in x0) (hx1 : ra_in x1) (hx2 : ra_in x2) (hx3 : ra_in x3) (hpt : 0 ≤ ra_g σ 179 18 ∧ ra_g σ 179 18 ≤ ra_g σ 179 17 ∧ ra_g σ 179 17 ≤ ra_g σ 179 12 ∧ ra_g σ 179 12 ≤ 500 ∧ 0 ≤ ra_g σ 179 19 ∧ ra_g σ 179 19 ≤ 999) (hld : LD σ) (hst : (x0 = 1 ∧ x1 = 1 ∧ x2 = 0 ∧ x3 = 31) ∨ (x0 = 2 ∧ x1 = 2 ∧ x2 = 0 ∧ x3 = 31) ∨ (x0 = 3 ∧ x1 = 4 ∧ x2 = 1 ∧ x3 = 32) ∨ (x0 = 4 ∧ x1 = 8 ∧ x2 = 1 ∧ x3 = 16)) (hB : x4TR σ B bn) (hN : x4RTK B bn σ ta) (hR : x5R6 r σ) : ra_C (g_Gs n f) g_sh 0 (d + 4) 256 [.index (179), ra_I x0, ra_I x1, ra_I x2, ra_I x3] σ (fun r9 s => (∃ z : Int, (z = 0 ∨ z = 1) ∧ ((z = 1 → ra_g s 179 20 = 3 → ra_g σ 179 17 < ra_g s 179 17) ∧ x5RO6 B bn s z (tx_set B bn r ta x0.toNat (100 + x0.toNat) (decide (x1 < 8)) x2 x3)) ∧ r9 = .inl (some (ra_I z))) ∧ Fr (179) (189) σ s ∧ s (181) = σ (181) ∧ s (182) = σ (182) ∧ s (183) = σ (183) ∧ s (184) = σ (184) ∧ (∀ a, a ≠ 15 → a ≠ 16 → a ≠ 17 → a ≠ 18 → a ≠ 19 → a ≠ 20 → a ≠ 21 → ra_g s 179 a = ra_g σ 179 a) ∧ LD s ∧ (0 ≤ ra_g s 179 18 ∧ ra_g s 179 18 ≤ ra_g s 179 17 ∧ ra_g s 179 17 ≤ ra_g s 179 12 ∧ ra_g s 179 12 ≤ 500 ∧ 0 ≤ ra_g s 179 19 ∧ ra_g s 179 19 ≤ 999) ∧ ra_g σ 179 17 ≤ ra_g s 179 17 ∧ s (187) = σ (187)) := by
  refine ra_enter (nn := 0) mt_256 rfl (Nat.le_of_ble_eq_true rfl) rfl (fun h => absurd h (by decide +kernel)) ?_
  have hw0 := WF_a hld.1
  unfold WFa at hw0
  have hl5 := hld.2.2.1
  have hR0 := hR
  obtain ⟨⟨⟨q0, q1, q2, q3, q4, q5⟩, q21, -, ⟨q15, q16⟩, qp⟩, qx⟩ := hR0
  have hN0 := hN
  obtain ⟨n1, n2, n3, -, n5, n6, n7⟩ := hN0
  refine ra_load rfl rfl rfl rfl ?_
  refine ra_bipush rfl (by decide) ?_
  refine ra_icge rfl rfl hx1 (by first | omega | (unfold ra_in at *; omega)) (fun h1 => ?_) (fun h1 => ?_)
  · refine ra_load rfl rfl rfl rfl ?_
    refine ra_getI rfl lk_8_243 (Nat.zero_le _) sh_179 rfl ?_
    have hr2 : ra_in (ra_g σ (179) 21) := (ra_in_g _ _ _)
    refine ra_load rfl rfl rfl rfl ?_
    refine ra_iand rfl ?_
    refine ra_ifeq rfl rfl (ra_in_op _ _ _) (fun h3 => ?_) (fun h3 => ?_)
    · refine ra_load rfl rfl rfl rfl ?_
      refine ra_dup rfl rfl ?_
      refine ra_getI rfl lk_8_243 (Nat.zero_le _) sh_179 rfl ?_
      have hr4 : ra_in (ra_g σ (179) 21) := (ra_in_g _ _ _)
      refine ra_load rfl rfl rfl rfl ?_
      refine ra_ior rfl ?_
      refine ra_putI rfl lk_8_243 (Nat.zero_le _) sh_179 rfl rfl ?_
      refine ra_newU (ra_in_op _ _ _) (fun s5 hs5 hp6 hp6o => ?_)
      have hp6_99 := hp6o 99 (by decide)
      have hF7 := Fr_tr (lo := 179) (hi := 189) Fr_rf hs5 (by omega)
      have hk8 : s5 (180) = σ (180) := (hs5 (180) (by omega))
      have hk9 : s5 (181) = σ (181) := (hs5 (181) (by omega))
      have hk10 : s5 (182) = σ (182) := (hs5 (182) (by omega))
      have hk11 : s5 (183) = σ (183) := (hs5 (183) (by omega))
      have hk12 : s5 (184) = σ (184) := (hs5 (184) (by omega))
      have hk13 : s5 (187) = σ (187) := (hs5 (187) (by omega))
      refine ra_load rfl rfl rfl rfl ?_
      refine ra_cV (s4_250 (by have q := (pt_e (hp6o 12 (by decide)) (hp6o 17 (by decide)) (hp6o 18 (by decide)) (hp6o 19 (by decide)) hpt); omega) (x4TR_k (hp6o 12 (by decide)) (hs5 (187) (by omega)) hB) (show ra_g s5 179 17 = ((tx_e B bn ta : Nat) : Int) from ((hp6o 17 (by decide))).trans hN.2.1) (by omega)) rfl (ct_250 rfl lk_8_240 (Or.inl rfl) sh_179 (Nat.le_of_ble_eq_true rfl)) (fun s14 hs14 => ?_)
      obtain ⟨hf15, he16, he17, he18, he19⟩ := hs14
      have hF20 := Fr_tr (lo := 179) (hi := 189) hF7 hf15 (by omega)
      have hk21 : s14 (180) = σ (180) := (hf15 (180) (by omega)).trans hk8
      have hk22 : s14 (181) = σ (181) := (hf15 (181) (by omega)).trans hk9
      have hk23 : s14 (182) = σ (182) := (hf15 (182) (by omega)).trans hk10
      have hk24 : s14 (183) = σ (183) := (hf15 (183) (by omega)).trans hk11
      have hk25 : s14 (184) = σ (184) := (hf15 (184) (by omega)).trans hk12
      have hk26 : s14 (187) = σ (187) := (hf15 (187) (by omega)).trans hk13
      refine ra_load rfl rfl rfl rfl ?_
      refine ra_iconst rfl ?_
      refine ra_load rfl rfl rfl rfl ?_
      refine ra_load rfl rfl rfl rfl ?_
      refine ra_cQPs (s4_255 (by first | omega | (unfold ra_in at *; omega)) hx2 hx3 he17 (by first | assumption | rfl | omega) (x4TR_k ((he16 12 (by decide) (by decide) (by decide) (by decide)).trans (hp6o 12 (by decide))) ((hf15 (187) (by omega)).trans (hs5 (187) (by omega))) hB) he19 ((((he16 15 (by decide) (by decide) (by decide) (by decide)).trans (hp6o 15 (by decide)))).trans q15)) rfl (ct_255 rfl lk_8_246 (Or.inl rfl) sh_179 (Nat.le_of_ble_eq_true rfl)) (fun z28 s27 hz28 hz28p hs27 => ?_)
      have hz28o := hz28p.1
      have hz28q := hz28p.2
      obtain ⟨hf29, hc30, hc31, hc32, hc33, hc34, he35, he36, he37, he38, he39⟩ := hs27
      have hF40 := Fr_tr (lo := 179) (hi := 189) hF20 hf29 (by omega)
      have hk41 : s27 (180) = σ (180) := hc30.trans hk21
      have hk42 : s27 (181) = σ (181) := hc31.trans hk22
      have hk43 : s27 (182) = σ (182) := hc32.trans hk23
      have hk44 : s27 (183) = σ (183) := hc33.trans hk24
      have hk45 : s27 (184) = σ (184) := hc34.trans hk25
      refine ra_ifne rfl rfl (ra_in01 hz28) (fun h46 => ?_) (fun h46 => ?_)
      · rw [toN0] at hz28q
        obtain ⟨-, hr1, hK1, hl1, hu1, he1, he1b⟩ := hz28q.resolve_right (fun q => by omega)
        have hKa := he19
        have ht := hz28o (by omega)
        rw [toN0] at ht
        have hld1 := (LD_k hc30 (LD_k (hf15 180 (by omega)) (LD_k (hs5 180 (by omega)) hld)))
        have h51 : ra_g s27 180 5 = ra_g σ 180 5 := ra_gk hk41
        refine ra_load rfl rfl rfl rfl ?_
        refine ra_getR rfl lk_8_7 (Nat.zero_le _) sh_179 rfl ?_
        refine ra_load rfl rfl rfl rfl ?_
        refine ra_load rfl rfl rfl rfl ?_
        refine ra_getR rfl lk_8_38 (Nat.zero_le _) sh_179 rfl ?_
        refine ra_iconst rfl ?_
        refine ra_ialoadJ (j := 0) rfl sh_188 rfl (by decide) rfl (by decide) ?_
        have hr47 : ra_in (ra_g s27 (188) 0) := (ra_in_g _ _ _)
        refine ra_iastore rfl sh_180 rfl (by decide) (by first | omega | (unfold ra_in at *; omega)) (by first | omega | (unfold ra_in at *; omega)) ?_
        refine ra_newR hr47 (fun s48 hs48 hs48v hs48o => ?_)
        have hF49 := Fr_tr (lo := 179) (hi := 189) hF40 hs48 (by omega)
        have hk50 : s48 (181) = σ (181) := (hs48 (181) (by omega)).trans hk42
        have hk51 : s48 (182) = σ (182) := (hs48 (182) (by omega)).trans hk43
        have hk52 : s48 (183) = σ (183) := (hs48 (183) (by omega)).trans hk44
        have hk53 : s48 (184) = σ (184) := (hs48 (184) (by omega)).trans hk45
        refine ra_iconst rfl ?_
        exact ra_ireturn rfl (ra_okB (Or.inr rfl)) ⟨⟨_, (Or.inr rfl), ⟨(fun _ q => by have m_s5 : ra_g s5 179 17 = ra_g σ 179 17 := (hp6o 17 (by decide)); have k_s5 : ra_g s5 179 20 = ra_g σ 179 20 := (hp6o 20 (by decide)); have m_s14 := he18.1; have m_s27 := he38; have m_s48 : ra_g s48 179 17 = ra_g s27 179 17 := (ra_gk (hs48 179 (by omega))); have k_s48 : ra_g s48 179 20 = ra_g s27 179 20 := (ra_gk (hs48 179 (by omega))); have m_a := hz28o (by omega); omega), (x5ro_y6 rfl (x4set_y (fun q => by have q9 := of_decide_eq_true q.1; have q8 := q.2; omega) (by have q9 := ((x4rs_h hst hR.1).2.1 (by omega)).1; omega) hr1) (x5R6_set hst hR ((x4rs_h hst hR.1).2.1 (by omega)).1 ((((ra_gk (hs48 179 (by omega))).trans ((he35 21 (by decide) (by decide) (by decide) (by decide) (by decide) (by decide)).trans (he16 21 (by decide) (by decide) (by decide) (by decide))))).trans (hp6.trans ((x4rs_h hst hR.1).2.1 (by omega)).2)) ⟨by have a : ra_g s48 179 15 = ra_g s27 179 15 := (ra_gk (hs48 179 (by omega))); omega, by have a : ra_g s48 179 16 = ra_g s27 179 16 := (ra_gk (hs48 179 (by omega))); have b : ra_g s14 179 16 = ra_g σ 179 16 := ((he16 16 (by decide) (by decide) (by decide) (by decide)).trans (hp6o 16 (by decide))); omega⟩ hs48v (fun j hj => (hs48o j hj).trans (ra_gk (hc30.trans ((hf15 (180) (by omega)).trans (hs5 (180) (by omega))))))) (x4RTK_k (ra_gk (hs48 179 (by omega))) (ra_gk (hs48 179 (by omega))) (ra_gk (hs48 179 (by omega))) (ra_gk (hs48 179 (by omega))) hK1) (x4RTK_n hKa))⟩, rfl⟩, ⟨hF49, hk50, hk51, hk52, hk53, (fun a h15 h16 h17 h18 h19 h20 h21 => ((ra_gk (hs48 179 (by omega))).trans ((he35 a h15 h16 h17 h18 h19 h20).trans ((he16 a h17 h18 h19 h20).trans (hp6o a h21))))), (LD_set (j := x0.toNat) hld1 (by omega) hs48o (fun q => by have t := hs48v; omega) (fun q => by have t := hs48v; omega) (fun q => by have t := hs48v; omega) (fun q => by have t := hs48v; omega) (by omega)), (pt_e (ra_gk (hs48 179 (by omega))) (ra_gk (hs48 179 (by omega))) (ra_gk (hs48 179 (by omega))) (ra_gk (hs48 179 (by omega))) he37), (by have m_s5 : ra_g s5 179 17 = ra_g σ 179 17 := (hp6o 17 (by decide)); have k_s5 : ra_g s5 179 20 = ra_g σ 179 20 := (hp6o 20 (by decide)); have m_s14 := he18.1; have m_s27 := he38; have m_s48 : ra_g s48 179 17 = ra_g s27 179 17 := (ra_gk (hs48 179 (by omega))); have k_s48 : ra_g s48 179 20 = ra_g s27 179 20 := (ra_gk (hs48 179 (by omega))); omega), ((hs48 (187) (by omega)).trans (he39.trans ((hf15 (187) (by omega)).trans (hs5 (187) (by omega)))))⟩⟩
      · refine ra_iconst rfl ?_
        exact ra_ireturn rfl (ra_okB (Or.inl rfl)) ⟨⟨_, (Or.inl rfl), ⟨(fun q => absurd q (by decide)), (x5ro_t6 hz28q (by omega) rfl (fun x hx => x4set_n (fun q => by have q9 := of_decide_eq_true q.1; have q8 := q.2; omega) (by have q9 := ((x4rs_h hst hR.1).2.1 (by omega)).1; omega) hx))⟩, rfl⟩, ⟨hF40, hk42, hk43, hk44, hk45, (fun a h15 h16 h17 h18 h19 h20 h21 => ((he35 a h15 h16 h17 h18 h19 h20).trans ((he16 a h17 h18 h19 h20).trans (hp6o a h21)))), (LD_k hc30 (LD_k (hf15 180 (by omega)) (LD_k (hs5 180 (by omega)) hld))), he37, (by have m_s5 : ra_g s5 179 17 = ra_g σ 179 17 := (hp6o 17 (by decide)); have k_s5 : ra_g s5 179 20 = ra_g σ 179 20 := (hp6o 20 (by decide)); have m_s14 := he18.1; have m_s27 := he38; omega), (he39.trans ((hf15 (187) (by omega)).trans (hs5 (187) (by omega))))⟩⟩
    · refine ra_load rfl rfl rfl rfl ?_
      refine ra_iconst rfl ?_
      refine ra_cQP (s4_252 (by first | omega | (unfold ra_in at *; omega))) rfl (ct_252 rfl lk_8_233 (Or.inl rfl) sh_179 (Nat.le_of_ble_eq_true rfl)) (fun z55 s54 hz55 hz55p hs54 => ?_)
      obtain ⟨hf56, he57, he58⟩ := hs54
      have hF59 := Fr_tr (lo := 179) (hi := 189) Fr_rf hf56 (by omega)
      have hk60 : s54 (180) = σ (180) := (hf56 (180) (by omega))
      have hk61 : s54 (181) = σ (181) := (hf56 (181) (by omega))
      have hk62 : s54 (182) = σ (182) := (hf56 (182) (by omega))
      have hk63 : s54 (183) = σ (183) := (hf56 (183) (by omega))
      have hk64 : s54 (184) = σ (184) := (hf56 (184) (by omega))
      have hk65 : s54 (187) = σ (187) := (hf56 (187) (by omega))
      exact ra_ireturn rfl (ra_okB hz55) ⟨⟨_, hz55, ⟨(fun q => absurd q (by omega)), (by first | exact x5ro_f6 (c := 1) (a := ta) hz55p (x4set_e (decide_eq_true (by omega)) (by omega)) (by have q := he58 q15; omega) (by have q := he58 q15; omega) | exact x5ro_f6 (c := 3) (a := ta) hz55p (x4set_t (fun q => by have q9 := of_decide_eq_true q.1; have q8 := q.2; omega) ((x4rs_h hst hR.1).1 (by omega))) (by have q := he58 q15; omega) (by have q := he58 q15; omega))⟩, rfl⟩, ⟨hF59, hk61, hk62, hk63, hk64, (fun a h15 h16 h17 h18 h19 h20 h21 => (he57 a h15 h16)), (LD_k (hf56 180 (by omega)) hld), (pt_e (he57 12 (by decide) (by decide)) (he57 17 (by decide) (by decide)) (he57 18 (by decide) (by decide)) (he57 19 (by decide) (by decide)) hpt), (by have m_s54 : ra_g s54 179 17 = ra_g σ 179 17 := (he57 17 (by decide) (by decide)); have k_s54 : ra_g s54 179 20 = ra_g σ 179 20 := (he57 20 (by decide) (by decide)); omega), (hf56 (187) (by omega))⟩⟩
  · refine ra_load rfl rfl rfl rfl ?_
    refine ra_getR rfl lk_8_7 (Nat.zero_le _) sh_179 rfl ?_
    refine ra_iconst rfl ?_
    refine ra_ialoadJ (j := 5) rfl sh_180 rfl (by decide) rfl (by decide) ?_
    have hr66 : ra_in (ra_g σ (180) 5) := (ra_in_g _ _ _)
    refine ra_ifle rfl rfl hr66 (fun h67 => ?_) (fun h67 => ?_)
    · refine ra_load rfl rfl rfl rfl ?_
      refine ra_getI rfl lk_8_243 (Nat.zero_le _) sh_179 rfl ?_
      have hr68 : ra_in (ra_g σ (179) 21) := (ra_in_g _ _ _)
      refine ra_load rfl rfl rfl rfl ?_
      refine ra_iand rfl ?_
      refine ra_ifeq rfl rfl (ra_in_op _ _ _) (fun h69 => ?_) (fun h69 => ?_)
      · refine ra_load rfl rfl rfl rfl ?_
        refine ra_dup rfl rfl ?_
        refine ra_getI rfl lk_8_243 (Nat.zero_le _) sh_179 rfl ?_
        have hr70 : ra_in (ra_g σ (179) 21) := (ra_in_g _ _ _)
        refine ra_load rfl rfl rfl rfl ?_
        refine ra_ior rfl ?_
        refine ra_putI rfl lk_8_243 (Nat.zero_le _) sh_179 rfl rfl ?_
        refine ra_newU (ra_in_op _ _ _) (fun s71 hs71 hp72 hp72o => ?_)
        have hp72_99 := hp72o 99 (by decide)
        have hF73 := Fr_tr (lo := 179) (hi := 189) Fr_rf hs71 (by omega)
        have hk74 : s71 (180) = σ (180) := (hs71 (180) (by omega))
        have hk75 : s71 (181) = σ (181) := (hs71 (181) (by omega))
        have hk76 : s71 (182) = σ (182) := (hs71 (182) (by omega))
        have hk77 : s71 (183) = σ (183) := (hs71 (183) (by omega))
        have hk78 : s71 (184) = σ (184) := (hs71 (184) (by omega))
        have hk79 : s71 (187) = σ (187) := (hs71 (187) (by omega))
        refine ra_load rfl rfl rfl rfl ?_
        refine ra_cV (s4_250 (by have q := (pt_e (hp72o 12 (by decide)) (hp72o 17 (by decide)) (hp72o 18 (by decide)) (hp72o 19 (by decide)) hpt); omega) (x4TR_k (hp72o 12 (by decide)) (hs71 (187) (by omega)) hB) (show ra_g s71 179 17 = ((tx_e B bn ta : Nat) : Int) from ((hp72o 17 (by decide))).trans hN.2.1) (by omega)) rfl (ct_250 rfl lk_8_240 (Or.inl rfl) sh_179 (Nat.le_of_ble_eq_true rfl)) (fun s80 hs80 => ?_)
        obtain ⟨hf81, he82, he83, he84, he85⟩ := hs80
        have hF86 := Fr_tr (lo := 179) (hi := 189) hF73 hf81 (by omega)
        have hk87 : s80 (180) = σ (180) := (hf81 (180) (by omega)).trans hk74
        have hk88 : s80 (181) = σ (181) := (hf81 (181) (by omega)).trans hk75
        have hk89 : s80 (182) = σ (182) := (hf81 (182) (by omega)).trans hk76
        have hk90 : s80 (183) = σ (183) := (hf81 (183) (by omega)).trans hk77
        have hk91 : s80 (184) = σ (184) := (hf81 (184) (by omega)).trans hk78
        have hk92 : s80 (187) = σ (187) := (hf81 (187) (by omega)).trans hk79
        refine ra_load rfl rfl rfl rfl ?_
        refine ra_iconst rfl ?_
        refine ra_load rfl rfl rfl rfl ?_
        refine ra_load rfl rfl rfl rfl ?_
        refine ra_cQPs (s4_255 (by first | omega | (unfold ra_in at *; omega)) hx2 hx3 he83 (by first | assumption | rfl | omega) (x4TR_k ((he82 12 (by decide) (by decide) (by decide) (by decide)).trans (hp72o 12 (by decide))) ((hf81 (187) (by omega)).trans (hs71 (187) (by omega))) hB) he85 ((((he82 15 (by decide) (by decide) (by decide) (by decide)).trans (hp72o 15 (by decide)))).trans q15)) rfl (ct_255 rfl lk_8_246 (Or.inl rfl) sh_179 (Nat.le_of_ble_eq_true rfl)) (fun z94 s93 hz94 hz94p hs93 => ?_)
        have hz94o := hz94p.1
        have hz94q := hz94p.2
        obtain ⟨hf95, hc96, hc97, hc98, hc99, hc100, he101, he102, he103, he104, he105⟩ := hs93
        have hF106 := Fr_tr (lo := 179) (hi := 189) hF86 hf95 (by omega)
        have hk107 : s93 (180) = σ (180) := hc96.trans hk87
        have hk108 : s93 (181) = σ (181) := hc97.trans hk88
        have hk109 : s93 (182) = σ (182) := hc98.trans hk89
        have hk110 : s93 (183) = σ (183) := hc99.trans hk90
        have hk111 : s93 (184) = σ (184) := hc100.trans hk91
        refine ra_ifne rfl rfl (ra_in01 hz94) (fun h112 => ?_) (fun h112 => ?_)
        · rw [toN0] at hz94q
          obtain ⟨-, hr1, hK1, hl1, hu1, he1, he1b⟩ := hz94q.resolve_right (fun q => by omega)
          have hKa := he85
          have ht := hz94o (by omega)
          rw [toN0] at ht
          have hld1 := (LD_k hc96 (LD_k (hf81 180 (by omega)) (LD_k (hs71 180 (by omega)) hld)))
          have h51 : ra_g s93 180 5 = ra_g σ 180 5 := ra_gk hk107
          refine ra_load rfl rfl rfl rfl ?_
          refine ra_getR rfl lk_8_7 (Nat.zero_le _) sh_179 rfl ?_
          refine ra_load rfl rfl rfl rfl ?_
          refine ra_load rfl rfl rfl rfl ?_
          refine ra_getR rfl lk_8_38 (Nat.zero_le _) sh_179 rfl ?_
          refine ra_iconst rfl ?_
          refine ra_ialoadJ (j := 0) rfl sh_188 rfl (by decide) rfl (by decide) ?_
          have hr113 : ra_in (ra_g s93 (188) 0) := (ra_in_g _ _ _)
          refine ra_iastore rfl sh_180 rfl (by decide) (by first | omega | (unfold ra_in at *; omega)) (by first | omega | (unfold ra_in at *; omega)) ?_
          refine ra_newR hr113 (fun s114 hs114 hs114v hs114o => ?_)
          have hF115 := Fr_tr (lo := 179) (hi := 189) hF106 hs114 (by omega)
          have hk116 : s114 (181) = σ (181) := (hs114 (181) (by omega)).trans hk108
          have hk117 : s114 (182) = σ (182) := (hs114 (182) (by omega)).trans hk109
          have hk118 : s114 (183) = σ (183) := (hs114 (183) (by omega)).trans hk110
          have hk119 : s114 (184) = σ (184) := (hs114 (184) (by omega)).trans hk111
          refine ra_iconst rfl ?_
          exact ra_ireturn rfl (ra_okB (Or.inr rfl)) ⟨⟨_, (Or.inr rfl), ⟨(fun _ q => by have m_s71 : ra_g s71 179 17 = ra_g σ 179 17 := (hp72o 17 (by decide)); have k_s71 : ra_g s71 179 20 = ra_g σ 179 20 := (hp72o 20 (by decide)); have m_s80 := he84.1; have m_s93 := he104; have m_s114 : ra_g s114 179 17 = ra_g s93 179 17 := (ra_gk (hs114 179 (by omega))); have k_s114 : ra_g s114 179 20 = ra_g s93 179 20 := (ra_gk (hs114 179 (by omega))); have m_a := hz94o (by omega); omega), (x5ro_y6 rfl (x4set_y (fun q => by have q9 := of_decide_eq_true q.1; have q8 := q.2; omega) (by have q9 := ((x4rs_h hst hR.1).2.1 (by omega)).1; omega) hr1) (x5R6_set hst hR ((x4rs_h hst hR.1).2.1 (by omega)).1 ((((ra_gk (hs114 179 (by omega))).trans ((he101 21 (by decide) (by decide) (by decide) (by decide) (by decide) (by decide)).trans (he82 21 (by decide) (by decide) (by decide) (by decide))))).trans (hp72.trans ((x4rs_h hst hR.1).2.1 (by omega)).2)) ⟨by have a : ra_g s114 179 15 = ra_g s93 179 15 := (ra_gk (hs114 179 (by omega))); omega, by have a : ra_g s114 179 16 = ra_g s93 179 16 := (ra_gk (hs114 179 (by omega))); have b : ra_g s80 179 16 = ra_g σ 179 16 := ((he82 16 (by decide) (by decide) (by decide) (by decide)).trans (hp72o 16 (by decide))); omega⟩ hs114v (fun j hj => (hs114o j hj).trans (ra_gk (hc96.trans ((hf81 (180) (by omega)).trans (hs71 (180) (by omega))))))) (x4RTK_k (ra_gk (hs114 179 (by omega))) (ra_gk (hs114 179 (by omega))) (ra_gk (hs114 179 (by omega))) (ra_gk (hs114 179 (by omega))) hK1) (x4RTK_n hKa))⟩, rfl⟩, ⟨hF115, hk116, hk117, hk118, hk119, (fun a h15 h16 h17 h18 h19 h20 h21 => ((ra_gk (hs114 179 (by omega))).trans ((he101 a h15 h16 h17 h18 h19 h20).trans ((he82 a h17 h18 h19 h20).trans (hp72o a h21))))), (LD_set (j := x0.toNat) hld1 (by omega) hs114o (fun q => by have t := hs114v; omega) (fun q => by have t := hs114v; omega) (fun q => by have t := hs114v; omega) (fun q => by have t := hs114v; omega) (by omega)), (pt_e (ra_gk (hs114 179 (by omega))) (ra_gk (hs114 179 (by omega))) (ra_gk (hs114 179 (by omega))) (ra_gk (hs114 179 (by omega))) he103), (by have m_s71 : ra_g s71 179 17 = ra_g σ 179 17 := (hp72o 17 (by decide)); have k_s71 : ra_g s71 179 20 = ra_g σ 179 20 := (hp72o 20 (by decide)); have m_s80 := he84.1; have m_s93 := he104; have m_s114 : ra_g s114 179 17 = ra_g s93 179 17 := (ra_gk (hs114 179 (by omega))); have k_s114 : ra_g s114 179 20 = ra_g s93 179 20 := (ra_gk (hs114 179 (by omega))); omega), ((hs114 (187) (by omega)).trans (he105.trans ((hf81 (187) (by omega)).trans (hs71 (187) (by omega)))))⟩⟩
        · refine ra_iconst rfl ?_
          exact ra_ireturn rfl (ra_okB (Or.inl rfl)) ⟨⟨_, (Or.inl rfl), ⟨(fun q => absurd q (by decide)), (x5ro_t6 hz94q (by omega) rfl (fun x hx => x4set_n (fun q => by have q9 := of_decide_eq_true q.1; have q8 := q.2; omega) (by have q9 := ((x4rs_h hst hR.1).2.1 (by omega)).1; omega) hx))⟩, rfl⟩, ⟨hF106, hk108, hk109, hk110, hk111, (fun a h15 h16 h17 h18 h19 h20 h21 => ((he101 a h15 h16 h17 h18 h19 h20).trans ((he82 a h17 h18 h19 h20).trans (hp72o a h21)))), (LD_k hc96 (LD_k (hf81 180 (by omega)) (LD_k (hs71 180 (by omega)) hld))), he103, (by have m_s71 : ra_g s71 179 17 = ra_g σ 179 17 := (hp72o 17 (by decide)); have k_s71 : ra_g s71 179 20 = ra_g σ 179 20 := (hp72o 20 (by decide)); have m_s80 := he84.1; have m_s93 := he104; omega), (he105.trans ((hf81 (187) (by omega)).trans (hs71 (187) (by omega))))⟩⟩
      · refine ra_load rfl rfl rfl rfl ?_
        refine ra_iconst rfl ?_
        refine ra_cQP (s4_252 (by first | omega | (unfold ra_in at *; omega))) rfl (ct_252 rfl lk_8_233 (Or.inl rfl) sh_179 (Nat.le_of_ble_eq_true rfl)) (fun z121 s120 hz121 hz121p hs120 => ?_)
        obtain ⟨hf122, he123, he124⟩ := hs120
        have hF125 := Fr_tr (lo := 179) (hi := 189) Fr_rf hf122 (by omega)
        have hk126 : s120 (180) = σ (180) := (hf122 (180) (by omega))
        have hk127 : s120 (181) = σ (181) := (hf122 (181) (by omega))
        have hk128 : s120 (182) = σ (182) := (hf122 (182) (by omega))
        have hk129 : s120 (183) = σ (183) := (hf122 (183) (by omega))
        have hk130 : s120 (184) = σ (184) := (hf122 (184) (by omega))
        have hk131 : s120 (187) = σ (187) := (hf122 (187) (by omega))
        exact ra_ireturn rfl (ra_okB hz121) ⟨⟨_, hz121, ⟨(fun q => absurd q (by omega)), (by first | exact x5ro_f6 (c := 1) (a := ta) hz121p (x4set_e (decide_eq_true (by omega)) (by omega)) (by have q := he124 q15; omega) (by have q := he124 q15; omega) | exact x5ro_f6 (c := 3) (a := ta) hz121p (x4set_t (fun q => by have q9 := of_decide_eq_true q.1; have q8 := q.2; omega) ((x4rs_h hst hR.1).1 (by omega))) (by have q := he124 q15; omega) (by have q := he124 q15; omega))⟩, rfl⟩, ⟨hF125, hk127, hk128, hk129, hk130, (fun a h15 h16 h17 h18 h19 h20 h21 => (he123 a h15 h16)), (LD_k (hf122 180 (by omega)) hld), (pt_e (he123 12 (by decide) (by decide)) (he123 17 (by decide) (by decide)) (he123 18 (by decide) (by decide)) (he123 19 (by decide) (by decide)) hpt), (by have m_s120 : ra_g s120 179 17 = ra_g σ 179 17 := (he123 17 (by decide) (by decide)); have k_s120 : ra_g s120 179 20 = ra_g σ 179 20 := (he123 20 (by decide) (by decide)); omega), (hf122 (187) (by omega))⟩⟩
    · refine ra_load rfl rfl rfl rfl ?_
      refine ra_iconst rfl ?_
      refine ra_cQP (s4_252 (by first | omega | (unfold ra_in at *; omega))) rfl (ct_252 rfl lk_8_233 (Or.inl rfl) sh_179 (Nat.le_of_ble_eq_true rfl)) (fun z133 s132 hz133 hz133p hs132 => ?_)
      obtain ⟨hf134, he135, he136⟩ := hs132
      have hF137 := Fr_tr (lo := 179) (hi := 189) Fr_rf hf134 (by omega)
      have hk138 : s132 (180) = σ (180) := (hf134 (180) (by omega))
      have hk139 : s132 (181) = σ (181) := (hf134 (181) (by omega))
      have hk140 : s132 (182) = σ (182) := (hf134 (182) (by omega))
      have hk141 : s132 (183) = σ (183) := (hf134 (183) (by omega))
      have hk142 : s132 (184) = σ (184) := (hf134 (184) (by omega))
      have hk143 : s132 (187) = σ (187) := (hf134 (187) (by omega))
      exact ra_ireturn rfl (ra_okB hz133) ⟨⟨_, hz133, ⟨(fun q => absurd q (by omega)), (by first | exact x5ro_f6 (c := 1) (a := ta) hz133p (x4set_e (decide_eq_true (by omega)) (by omega)) (by have q := he136 q15; omega) (by have q := he136 q15; omega) | exact x5ro_f6 (c := 3) (a := ta) hz133p (x4set_t (fun q => by have q9 := of_decide_eq_true q.1; have q8 := q.2; omega) ((x4rs_h hst hR.1).1 (by omega))) (by have q := he136 q15; omega) (by have q := he136 q15; omega))⟩, rfl⟩, ⟨hF137, hk139, hk140, hk141, hk142, (fun a h15 h16 h17 h18 h19 h20 h21 => (he135 a h15 h16)), (LD_k (hf134 180 (by omega)) hld), (pt_e (he135 12 (by decide) (by decide)) (he135 17 (by decide) (by decide)) (he135 18 (by decide) (by decide)) (he135 19 (by decide) (by decide)) hpt), (by have m_s132 : ra_g s132 179 17 = ra_g σ 179 17 := (he135 17 (by decide) (by decide)); have k_s132 : ra_g s132 179 20 = ra_g σ 179 20 := (he135 20 (by decide) (by decide)); omega), (hf134 (187) (by omega))⟩⟩
theorem s9_258 {n : Nat} {f : Nat → Int32} {d : Nat}  {σ : ra_V} (hpt : 0 ≤ ra_g σ 179 18 ∧ ra_g σ 179 18 ≤ ra_g σ 179 17 ∧ ra_g σ 179 17 ≤ ra_g σ 179 12 ∧ ra_g σ 179 12 ≤ 500 ∧ 0 ≤ ra_g σ 179 19 ∧ ra_g σ 179 19 ≤ 999) (hld : LD σ) (hB : x4TR σ B bn) (hN : x4RTK B bn σ ta) (hR : x5R6 r σ) : ra_C (g_Gs n f) g_sh 0 (d + 3) 258 [.index (179)] σ (fun r9 s => (∃ z : Int, (z = 0 ∨ z = 1) ∧ ((z = 1 → ra_g s 179 20 = 3 → ra_g σ 179 17 < ra_g s 179 17) ∧ x5RO6 B bn s z (tx_lock B bn r ta)) ∧ r9 = .inl (some (ra_I z))) ∧ Fr (179) (189) σ s ∧ s (181) = σ (181) ∧ s (182) = σ (182) ∧ s (183) = σ (183) ∧ s (184) = σ (184) ∧ (∀ a, a ≠ 15 → a ≠ 16 → a ≠ 17 → a ≠ 18 → a ≠ 19 → a ≠ 20 → a ≠ 21 → ra_g s 179 a = ra_g σ 179 a) ∧ LD s ∧ (0 ≤ ra_g s 179 18 ∧ ra_g s 179 18 ≤ ra_g s 179 17 ∧ ra_g s 179 17 ≤ ra_g s 179 12 ∧ ra_g s 179 12 ≤ 500 ∧ 0 ≤ ra_g s 179 19 ∧ ra_g s 179 19 ≤ 999) ∧ ra_g σ 179 17 ≤ ra_g s 179 17 ∧ s (187) = σ (187)) := by
  refine ra_enter (nn := 0) mt_258 rfl (Nat.le_of_ble_eq_true rfl) rfl (fun h => absurd h (by decide +kernel)) ?_
  have hw0 := WF_a hld.1
  unfold WFa at hw0
  have hl5 := hld.2.2.1
  have hR0 := hR
  obtain ⟨⟨⟨q0, q1, q2, q3, q4, q5⟩, q21, -, ⟨q15, q16⟩, qp⟩, qx⟩ := hR0
  have hN0 := hN
  obtain ⟨n1, n2, n3, -, n5, n6, n7⟩ := hN0
  refine ra_load rfl rfl rfl rfl ?_
  refine ra_cV (s4_250 (by have q := hpt; omega) hB (show ra_g σ 179 17 = ((tx_e B bn ta : Nat) : Int) from (rfl).trans hN.2.1) (by omega)) rfl (ct_250 rfl lk_8_240 (Or.inl rfl) sh_179 (Nat.le_of_ble_eq_true rfl)) (fun s1 hs1 => ?_)
  obtain ⟨hf2, he3, he4, he5, he6⟩ := hs1
  have hF7 := Fr_tr (lo := 179) (hi := 189) Fr_rf hf2 (by omega)
  have hk8 : s1 (180) = σ (180) := (hf2 (180) (by omega))
  have hk9 : s1 (181) = σ (181) := (hf2 (181) (by omega))
  have hk10 : s1 (182) = σ (182) := (hf2 (182) (by omega))
  have hk11 : s1 (183) = σ (183) := (hf2 (183) (by omega))
  have hk12 : s1 (184) = σ (184) := (hf2 (184) (by omega))
  have hk13 : s1 (187) = σ (187) := (hf2 (187) (by omega))
  refine ra_load rfl rfl rfl rfl ?_
  refine ra_iconst rfl ?_
  refine ra_load rfl rfl rfl rfl ?_
  refine ra_getR rfl lk_8_7 (Nat.zero_le _) sh_179 rfl ?_
  refine ra_iconst rfl ?_
  refine ra_ialoadJ (j := 5) rfl sh_180 rfl (by decide) rfl (by decide) ?_
  rw [ra_gk hk8]
  have hr14 : ra_in (ra_g σ (180) 5) := (ra_in_g _ _ _)
  refine ra_iconst rfl ?_
  refine ra_isub rfl ?_
  refine ra_cQPs (s4_254 (by first | omega | (unfold ra_in at *; omega)) (by first | omega | (unfold ra_in at *; omega)) (by have q := he4; omega) he6 (((he3 15 (by decide) (by decide) (by decide) (by decide))).trans q15)) rfl (ct_254 rfl lk_8_236 (Or.inl rfl) sh_179 (Nat.le_of_ble_eq_true rfl)) (fun z16 s15 hz16 hz16p hs15 => ?_)
  have hz16o := hz16p.1
  have hz16q := hz16p.2
  obtain ⟨hf17, he18⟩ := hs15
  have hF19 := Fr_tr (lo := 179) (hi := 189) hF7 hf17 (by omega)
  have hk20 : s15 (180) = σ (180) := (hf17 (180) (by omega)).trans hk8
  have hk21 : s15 (181) = σ (181) := (hf17 (181) (by omega)).trans hk9
  have hk22 : s15 (182) = σ (182) := (hf17 (182) (by omega)).trans hk10
  have hk23 : s15 (183) = σ (183) := (hf17 (183) (by omega)).trans hk11
  have hk24 : s15 (184) = σ (184) := (hf17 (184) (by omega)).trans hk12
  have hk25 : s15 (187) = σ (187) := (hf17 (187) (by omega)).trans hk13
  refine ra_ifne rfl rfl (ra_in01 hz16) (fun h26 => ?_) (fun h26 => ?_)
  · have hv := hz16o (by omega)
    have ev_s15 : ra_g s15 179 19 = ra_g s1 179 19 := (he18 19 (by decide) (by decide))
    have e5 : ra_g s1 180 5 = ra_g σ 180 5 := ra_gk (hf2 180 (by omega))
    rw [q5] at hz16q
    obtain ⟨-, hr1, hl1, hu1, he1, he1b⟩ := hz16q.resolve_right (fun q => by omega)
    have hv19 : ra_g s15 179 19 = ra_g s1 179 19 := (he18 19 (by decide) (by decide))
    have d0 := qp (ra_g s15 179 19).toNat (by omega) (by omega)
    have d1 : wq σ (ra_g s15 179 19) 5 = ra_g σ 180 (29 + 8 * (ra_g s15 179 19).toNat) := congrArg (ra_g σ 180) (by omega)
    rw [← hv19] at hr1
    refine ra_load rfl rfl rfl rfl ?_
    refine ra_load rfl rfl rfl rfl ?_
    refine ra_getI rfl lk_8_201 (Nat.zero_le _) sh_179 rfl ?_
    have hr27 : ra_in (ra_g s15 (179) 19) := (ra_in_g _ _ _)
    refine ra_iconst rfl ?_
    refine ra_cTp (sp_200 hr27 (by first | omega | (unfold ra_in at *; omega)) (by first | assumption | rfl | omega)) rfl (ct_200 rfl lk_8_67 (Or.inl rfl) sh_179 (Nat.le_of_ble_eq_true rfl)) ?_
    rw [wq_k hk20]
    have hr29 : ra_in (wq σ (ra_g s15 (179) 19) (5)) := (ra_in_wq _ _ _)
    refine ra_iconst rfl ?_
    refine ra_icne rfl rfl hr29 (by first | omega | (unfold ra_in at *; omega)) (fun h30 => ?_) (fun h30 => ?_)
    · refine ra_load rfl rfl rfl rfl ?_
      refine ra_load rfl rfl rfl rfl ?_
      refine ra_getI rfl lk_8_201 (Nat.zero_le _) sh_179 rfl ?_
      have hr31 : ra_in (ra_g s15 (179) 19) := (ra_in_g _ _ _)
      refine ra_iconst rfl ?_
      refine ra_iconst rfl ?_
      refine ra_cV (sp_201 hr31 (by first | omega | (unfold ra_in at *; omega)) (by first | omega | (unfold ra_in at *; omega)) (by first | assumption | rfl | omega)) rfl (ct_201 rfl lk_8_78 (Or.inl rfl) sh_179 (Nat.le_of_ble_eq_true rfl)) (fun s32 hs32 => ?_)
      obtain ⟨hf33, he34, he35⟩ := hs32
      have hF36 := Fr_tr (lo := 179) (hi := 189) hF19 hf33 (by omega)
      have hk37 : s32 (181) = σ (181) := (hf33 (181) (by omega)).trans hk21
      have hk38 : s32 (182) = σ (182) := (hf33 (182) (by omega)).trans hk22
      have hk39 : s32 (183) = σ (183) := (hf33 (183) (by omega)).trans hk23
      have hk40 : s32 (184) = σ (184) := (hf33 (184) (by omega)).trans hk24
      have hk41 : s32 (187) = σ (187) := (hf33 (187) (by omega)).trans hk25
      refine ra_load rfl rfl rfl rfl ?_
      refine ra_cV (s4_250 (by have q := (pt_e (ra_gk (hf33 179 (by omega))) (ra_gk (hf33 179 (by omega))) (ra_gk (hf33 179 (by omega))) (ra_gk (hf33 179 (by omega))) (pt_e (he18 12 (by decide) (by decide)) (he18 17 (by decide) (by decide)) (he18 18 (by decide) (by decide)) (he18 19 (by decide) (by decide)) he4)); omega) (x4TR_k ((ra_gk (hf33 179 (by omega))).trans ((he18 12 (by decide) (by decide)).trans (he3 12 (by decide) (by decide) (by decide) (by decide)))) ((hf33 (187) (by omega)).trans ((hf17 (187) (by omega)).trans (hf2 (187) (by omega)))) hB) (show ra_g s32 179 17 = ((x4tx_n B bn (tx_e B bn ta) : Nat) : Int) from (((ra_gk (hf33 179 (by omega))).trans (he18 17 (by decide) (by decide)))).trans he6.2.1) (x4RTK_n he6)) rfl (ct_250 rfl lk_8_240 (Or.inl rfl) sh_179 (Nat.le_of_ble_eq_true rfl)) (fun s42 hs42 => ?_)
      obtain ⟨hf43, he44, he45, he46, he47⟩ := hs42
      have hF48 := Fr_tr (lo := 179) (hi := 189) hF36 hf43 (by omega)
      have hk49 : s42 (181) = σ (181) := (hf43 (181) (by omega)).trans hk37
      have hk50 : s42 (182) = σ (182) := (hf43 (182) (by omega)).trans hk38
      have hk51 : s42 (183) = σ (183) := (hf43 (183) (by omega)).trans hk39
      have hk52 : s42 (184) = σ (184) := (hf43 (184) (by omega)).trans hk40
      have hk53 : s42 (187) = σ (187) := (hf43 (187) (by omega)).trans hk41
      refine ra_iconst rfl ?_
      exact ra_ireturn rfl (ra_okB (Or.inr rfl)) ⟨⟨_, (Or.inr rfl), ⟨(fun _ q => by have m_s1 := he5.1; have m_s15 : ra_g s15 179 17 = ra_g s1 179 17 := (he18 17 (by decide) (by decide)); have k_s15 : ra_g s15 179 20 = ra_g s1 179 20 := (he18 20 (by decide) (by decide)); have m_s32 : ra_g s32 179 17 = ra_g s15 179 17 := (ra_gk (hf33 179 (by omega))); have k_s32 : ra_g s32 179 20 = ra_g s15 179 20 := (ra_gk (hf33 179 (by omega))); have m_s42 := he46.1; have m_a := he46.2; omega), (x5ro_y6 rfl (x4lock_y hr1 (by omega)) (x5R6_lock (j := (ra_g s15 179 19).toNat) (by omega) (by omega) hR ((ra_gk (hf43 (180) (by omega))).trans ((congrArg (ra_g s32 180) (by omega : 29 + 8 * (ra_g s15 179 19).toNat = (24 + 8 * ra_g s15 179 19 + 5).toNat)).trans he34)) (fun a ha => (ra_gk (hf43 (180) (by omega))).trans ((he35 a (by omega)).trans (ra_gk ((hf17 (180) (by omega)).trans (hf2 (180) (by omega)))))) ⟨by have a : ra_g s42 179 15 = ra_g s15 179 15 := ((he44 15 (by decide) (by decide) (by decide) (by decide)).trans (ra_gk (hf33 179 (by omega)))); omega, by have a : ra_g s42 179 16 = ra_g s15 179 16 := ((he44 16 (by decide) (by decide) (by decide) (by decide)).trans (ra_gk (hf33 179 (by omega)))); have b : ra_g s1 179 16 = ra_g σ 179 16 := (he3 16 (by decide) (by decide) (by decide) (by decide)); omega, ((he44 21 (by decide) (by decide) (by decide) (by decide)).trans ((ra_gk (hf33 179 (by omega))).trans ((he18 21 (by decide) (by decide)).trans (he3 21 (by decide) (by decide) (by decide) (by decide)))))⟩) he47 (x4RTK_n he6))⟩, rfl⟩, ⟨hF48, hk49, hk50, hk51, hk52, (fun a h15 h16 h17 h18 h19 h20 h21 => ((he44 a h17 h18 h19 h20).trans ((ra_gk (hf33 179 (by omega))).trans ((he18 a h15 h16).trans (he3 a h17 h18 h19 h20))))), (LD_k (hf43 180 (by omega)) (LD_lock (LD_k (hf17 180 (by omega)) (LD_k (hf2 180 (by omega)) hld)) ⟨by omega, by omega⟩ he35)), he45, (by have m_s1 := he5.1; have m_s15 : ra_g s15 179 17 = ra_g s1 179 17 := (he18 17 (by decide) (by decide)); have k_s15 : ra_g s15 179 20 = ra_g s1 179 20 := (he18 20 (by decide) (by decide)); have m_s32 : ra_g s32 179 17 = ra_g s15 179 17 := (ra_gk (hf33 179 (by omega))); have k_s32 : ra_g s32 179 20 = ra_g s15 179 20 := (ra_gk (hf33 179 (by omega))); have m_s42 := he46.1; omega), ((hf43 (187) (by omega)).trans ((hf33 (187) (by omega)).trans ((hf17 (187) (by omega)).trans (hf2 (187) (by omega)))))⟩⟩
    · refine ra_load rfl rfl rfl rfl ?_
      refine ra_iconst rfl ?_
      refine ra_cQP (s4_252 (by first | omega | (unfold ra_in at *; omega))) rfl (ct_252 rfl lk_8_233 (Or.inl rfl) sh_179 (Nat.le_of_ble_eq_true rfl)) (fun z55 s54 hz55 hz55p hs54 => ?_)
      obtain ⟨hf56, he57, he58⟩ := hs54
      have hF59 := Fr_tr (lo := 179) (hi := 189) hF19 hf56 (by omega)
      have hk60 : s54 (180) = σ (180) := (hf56 (180) (by omega)).trans hk20
      have hk61 : s54 (181) = σ (181) := (hf56 (181) (by omega)).trans hk21
      have hk62 : s54 (182) = σ (182) := (hf56 (182) (by omega)).trans hk22
      have hk63 : s54 (183) = σ (183) := (hf56 (183) (by omega)).trans hk23
      have hk64 : s54 (184) = σ (184) := (hf56 (184) (by omega)).trans hk24
      have hk65 : s54 (187) = σ (187) := (hf56 (187) (by omega)).trans hk25
      exact ra_ireturn rfl (ra_okB hz55) ⟨⟨_, hz55, ⟨(fun q => absurd q (by omega)), (x5ro_f6 (c := 3) (a := tx_a B bn (tx_e B bn ta)) hz55p (x4lock_t hr1 (by omega)) (by have q := he58 he1; omega) (by have q := he58 he1; have q9 := (x4RTK_k (he18 17 (by decide) (by decide)) (he18 18 (by decide) (by decide)) (he18 19 (by decide) (by decide)) (he18 20 (by decide) (by decide)) he6).1; omega))⟩, rfl⟩, ⟨hF59, hk61, hk62, hk63, hk64, (fun a h15 h16 h17 h18 h19 h20 h21 => ((he57 a h15 h16).trans ((he18 a h15 h16).trans (he3 a h17 h18 h19 h20)))), (LD_k (hf56 180 (by omega)) (LD_k (hf17 180 (by omega)) (LD_k (hf2 180 (by omega)) hld))), (pt_e (he57 12 (by decide) (by decide)) (he57 17 (by decide) (by decide)) (he57 18 (by decide) (by decide)) (he57 19 (by decide) (by decide)) (pt_e (he18 12 (by decide) (by decide)) (he18 17 (by decide) (by decide)) (he18 18 (by decide) (by decide)) (he18 19 (by decide) (by decide)) he4)), (by have m_s1 := he5.1; have m_s15 : ra_g s15 179 17 = ra_g s1 179 17 := (he18 17 (by decide) (by decide)); have k_s15 : ra_g s15 179 20 = ra_g s1 179 20 := (he18 20 (by decide) (by decide)); have m_s54 : ra_g s54 179 17 = ra_g s15 179 17 := (he57 17 (by decide) (by decide)); have k_s54 : ra_g s54 179 20 = ra_g s15 179 20 := (he57 20 (by decide) (by decide)); omega), ((hf56 (187) (by omega)).trans ((hf17 (187) (by omega)).trans (hf2 (187) (by omega))))⟩⟩
  · refine ra_iconst rfl ?_
    exact ra_ireturn rfl (ra_okB (Or.inl rfl)) ⟨⟨_, (Or.inl rfl), ⟨(fun q => absurd q (by decide)), (by have q9 := hz16q; rw [q5] at q9; exact x5ro_n6 q9 (by omega) rfl (fun x hx => x4lock_n hx))⟩, rfl⟩, ⟨hF19, hk21, hk22, hk23, hk24, (fun a h15 h16 h17 h18 h19 h20 h21 => ((he18 a h15 h16).trans (he3 a h17 h18 h19 h20))), (LD_k (hf17 180 (by omega)) (LD_k (hf2 180 (by omega)) hld)), (pt_e (he18 12 (by decide) (by decide)) (he18 17 (by decide) (by decide)) (he18 18 (by decide) (by decide)) (he18 19 (by decide) (by decide)) he4), (by have m_s1 := he5.1; have m_s15 : ra_g s15 179 17 = ra_g s1 179 17 := (he18 17 (by decide) (by decide)); have k_s15 : ra_g s15 179 20 = ra_g s1 179 20 := (he18 20 (by decide) (by decide)); omega), ((hf17 (187) (by omega)).trans (hf2 (187) (by omega)))⟩⟩
theorem l9_257_183 {n : Nat} {f : Nat → Int32} {d : Nat}  {σ : ra_V} (hpt : 0 ≤ ra_g σ 179 18 ∧ ra_g σ 179 18 ≤ ra_g σ 179 17 ∧ ra_g σ 179 17 ≤ ra_g σ 179 12 ∧ ra_g σ 179 12 ≤ 500 ∧ 0 ≤ ra_g σ 179 19 ∧ ra_g σ 179 19 ≤ 999) (hld : LD σ) (hB : x4TR σ B bn) (hN : x4RTK B bn σ ta) (hR : x5R6 r σ) : ∀ (s : ra_V) (hF : Fr (179) (189) σ s) (hk0 : s (180) = σ (180)) (hk1 : s (181) = σ (181)) (hk2 : s (182) = σ (182)) (hk3 : s (183) = σ (183)) (hk4 : s (184) = σ (184)) (hov : ∀ a, a ≠ 15 → a ≠ 16 → a ≠ 17 → a ≠ 18 → a ≠ 19 → a ≠ 20 → a ≠ 21 → ra_g s 179 a = ra_g σ 179 a) (hps : 0 ≤ ra_g s 179 18 ∧ ra_g s 179 18 ≤ ra_g s 179 17 ∧ ra_g s 179 17 ≤ ra_g s 179 12 ∧ ra_g s 179 12 ≤ 500 ∧ 0 ≤ ra_g s 179 19 ∧ ra_g s 179 19 ≤ 999) (hmo : ra_g σ 179 17 ≤ ra_g s 179 17) (h8 : ra_g σ 180 5 ≠ 8) (hua : US σ (ra_g s 188 0) (ra_g s 188 1)) (hta : ¬ TK σ (ra_g s 188 0) (ra_g s 188 1) (-1)) (h3 : 1 ≤ ra_g s 188 3 ∧ ra_g s 188 3 ≤ ra_g s 188 1) (hadv : ra_g s 179 20 = 3 → ra_g σ 179 17 < ra_g s 179 17) (hRs : x5R6 r s) (hKs : x4RTK B bn s (tx_a B bn (x4tx_n B bn (x4tx_n B bn (x4tx_n B bn (x4tx_n B bn (tx_e B bn ta))))))) (hBs : x4TR s B bn) (k7 : s (187) = σ (187)) (hPA : x4PA B bn r ta (ra_g s 188 0)) (hPB : x4PB B bn r ta (ra_g s 188 0) (ra_g s 188 1)) (hPC : tx_rd B bn (x4tx_n B bn (x4tx_n B bn (tx_e B bn ta))) 0 9 = .inr (ra_g s 188 2, x4tx_n B bn (x4tx_n B bn (x4tx_n B bn (tx_e B bn ta))))) (hPD : tx_rd B bn (x4tx_n B bn (x4tx_n B bn (x4tx_n B bn (tx_e B bn ta)))) 1 (ra_g s 188 1) = .inr (ra_g s 188 3, x4tx_n B bn (x4tx_n B bn (x4tx_n B bn (x4tx_n B bn (tx_e B bn ta)))))) (hKu : tx_a B bn (x4tx_n B bn (x4tx_n B bn (x4tx_n B bn (tx_e B bn ta)))) ≤ bn ∧ tx_a B bn (x4tx_n B bn (x4tx_n B bn (x4tx_n B bn (tx_e B bn ta)))) ≤ x4tx_n B bn (x4tx_n B bn (x4tx_n B bn (x4tx_n B bn (tx_e B bn ta)))) ∧ x4tx_n B bn (x4tx_n B bn (x4tx_n B bn (x4tx_n B bn (tx_e B bn ta)))) ≤ bn), ra_P (g_Gs n f) g_sh 0 (d + 4) g_m_X8_readPart 183 [some (.index (179)), none] [] s (fun r9 s => (∃ z : Int, (z = 0 ∨ z = 1) ∧ ((z = 1 → ra_g s 179 20 = 3 → ra_g σ 179 17 < ra_g s 179 17) ∧ x5RO6 B bn s z (tx_part B bn r ta)) ∧ r9 = .inl (some (ra_I z))) ∧ Fr (179) (189) σ s ∧ s (181) = σ (181) ∧ s (182) = σ (182) ∧ s (183) = σ (183) ∧ s (184) = σ (184) ∧ (∀ a, a ≠ 15 → a ≠ 16 → a ≠ 17 → a ≠ 18 → a ≠ 19 → a ≠ 20 → a ≠ 21 → ra_g s 179 a = ra_g σ 179 a) ∧ LD s ∧ (0 ≤ ra_g s 179 18 ∧ ra_g s 179 18 ≤ ra_g s 179 17 ∧ ra_g s 179 17 ≤ ra_g s 179 12 ∧ ra_g s 179 12 ≤ 500 ∧ 0 ≤ ra_g s 179 19 ∧ ra_g s 179 19 ≤ 999) ∧ ra_g σ 179 17 ≤ ra_g s 179 17 ∧ s (187) = σ (187)) := by
    intro s hF hk0 hk1 hk2 hk3 hk4 hov hps hmo h8 hua hta h3 hadv hRs hKs hBs k7 hPA hPB hPC hPD hKu
    have hw0 := WF_a hld.1
    unfold WFa at hw0
    have hl5 := hld.2.2.1
    have hus := US_k hk0.symm hua
    have hus2 := hus
    unfold US at hus2
    have e5 : ra_g s 180 5 = ra_g σ 180 5 := ra_gk hk0
    have e0 : ra_g s 180 0 = ra_g σ 180 0 := ra_gk hk0
    have e1 : ra_g s 180 1 = ra_g σ 180 1 := ra_gk hk0
    have e2 : ra_g s 180 2 = ra_g σ 180 2 := ra_gk hk0
    have hR0 := hR
    obtain ⟨⟨⟨q0, q1, q2, q3, q4, q5⟩, q21, -, ⟨q15, q16⟩, qp⟩, qx⟩ := hR0
    have hN0 := hN
    obtain ⟨n1, n2, n3, -, n5, n6, n7⟩ := hN0
    have hRs0 := hRs
    obtain ⟨⟨⟨r0, r1, r2, r3, r4, r5⟩, r21, -, ⟨r15, r16⟩, -⟩, -⟩ := hRs0
    refine ra_load rfl rfl rfl rfl ?_
    refine ra_load rfl rfl rfl rfl ?_
    refine ra_getR rfl lk_8_38 (Nat.zero_le _) sh_179 rfl ?_
    refine ra_iconst rfl ?_
    refine ra_ialoadJ (j := 0) rfl sh_188 rfl (by decide) rfl (by decide) ?_
    have hr149 : ra_in (ra_g s (188) 0) := (ra_in_g _ _ _)
    refine ra_load rfl rfl rfl rfl ?_
    refine ra_getR rfl lk_8_38 (Nat.zero_le _) sh_179 rfl ?_
    refine ra_iconst rfl ?_
    refine ra_ialoadJ (j := 1) rfl sh_188 rfl (by decide) rfl (by decide) ?_
    have hr150 : ra_in (ra_g s (188) 1) := (ra_in_g _ _ _)
    refine ra_load rfl rfl rfl rfl ?_
    refine ra_getR rfl lk_8_38 (Nat.zero_le _) sh_179 rfl ?_
    refine ra_iconst rfl ?_
    refine ra_ialoadJ (j := 2) rfl sh_188 rfl (by decide) rfl (by decide) ?_
    have hr151 : ra_in (ra_g s (188) 2) := (ra_in_g _ _ _)
    refine ra_load rfl rfl rfl rfl ?_
    refine ra_getR rfl lk_8_38 (Nat.zero_le _) sh_179 rfl ?_
    refine ra_iconst rfl ?_
    refine ra_ialoadJ (j := 3) rfl sh_188 rfl (by decide) rfl (by decide) ?_
    have hr152 : ra_in (ra_g s (188) 3) := (ra_in_g _ _ _)
    refine ra_cIPs (s9_210 hr149 hr150 hr151 hr152 (LD_x (LD_k hk0 hld) (by omega)) (by omega) (by omega)) rfl (ct_210 rfl lk_8_250 (Or.inl rfl) sh_179 (Nat.le_of_ble_eq_true rfl)) (fun z154 s153 hz154 hz154p hs153 => ?_)
    have hF155 := Fr_tr (lo := 179) (hi := 189) hF hs153 (by omega)
    have hk156 : s153 (181) = σ (181) := (hs153 (181) (by omega)).trans hk1
    have hk157 : s153 (182) = σ (182) := (hs153 (182) (by omega)).trans hk2
    have hk158 : s153 (183) = σ (183) := (hs153 (183) (by omega)).trans hk3
    have hk159 : s153 (184) = σ (184) := (hs153 (184) (by omega)).trans hk4
    refine ra_store (L' := [_, _]) rfl rfl rfl (Nat.le_of_ble_eq_true rfl) rfl ?_
    refine ra_load rfl rfl rfl rfl ?_
    refine ra_iflt rfl rfl hz154 (fun h160 => ?_) (fun h160 => ?_)
    · refine ra_iconst rfl ?_
      exact ra_ireturn rfl (ra_okB (Or.inl rfl)) ⟨⟨_, (Or.inl rfl), ⟨(fun q => absurd q (by decide)), (by exfalso; have q9 := hz154p.1.1.1.1; omega)⟩, rfl⟩, ⟨hF155, hk156, hk157, hk158, hk159, (fun a h15 h16 h17 h18 h19 h20 h21 => ((ra_gk (hs153 179 (by omega))).trans (hov a h15 h16 h17 h18 h19 h20 h21))), (LD_new (LD_k hk0 hld) hz154p.1 (by omega) hus (fun q => hta (TK_k hk0 q)) ⟨by omega, by omega⟩), (pt_e (ra_gk (hs153 179 (by omega))) (ra_gk (hs153 179 (by omega))) (ra_gk (hs153 179 (by omega))) (ra_gk (hs153 179 (by omega))) hps), (by have m_s153 : ra_g s153 179 17 = ra_g s 179 17 := (ra_gk (hs153 179 (by omega))); have k_s153 : ra_g s153 179 20 = ra_g s 179 20 := (ra_gk (hs153 179 (by omega))); omega), ((hs153 (187) (by omega)).trans k7)⟩⟩
    · refine ra_iconst rfl ?_
      refine ra_goto rfl rfl ?_
      exact ra_ireturn rfl (ra_okB (Or.inr rfl)) ⟨⟨_, (Or.inr rfl), ⟨(fun _ q => by have m_s153 : ra_g s153 179 17 = ra_g s 179 17 := (ra_gk (hs153 179 (by omega))); have k_s153 : ra_g s153 179 20 = ra_g s 179 20 := (ra_gk (hs153 179 (by omega))); have a := hadv (by omega); omega), (x5ro_y6 rfl (x4pd_y (by omega) hPA hPB hPC hPD) (x5R6_mk2 hRs (LD_k hk0 hld) (by omega) hz154p.1 hz154p.2 ⟨(ra_gk (hs153 179 (by omega))), (ra_gk (hs153 179 (by omega))), (ra_gk (hs153 179 (by omega)))⟩) (x4RTK_k (ra_gk (hs153 179 (by omega))) (ra_gk (hs153 179 (by omega))) (ra_gk (hs153 179 (by omega))) (ra_gk (hs153 179 (by omega))) hKs) hKu.2.2)⟩, rfl⟩, ⟨hF155, hk156, hk157, hk158, hk159, (fun a h15 h16 h17 h18 h19 h20 h21 => ((ra_gk (hs153 179 (by omega))).trans (hov a h15 h16 h17 h18 h19 h20 h21))), (LD_new (LD_k hk0 hld) hz154p.1 (by omega) hus (fun q => hta (TK_k hk0 q)) ⟨by omega, by omega⟩), (pt_e (ra_gk (hs153 179 (by omega))) (ra_gk (hs153 179 (by omega))) (ra_gk (hs153 179 (by omega))) (ra_gk (hs153 179 (by omega))) hps), (by have m_s153 : ra_g s153 179 17 = ra_g s 179 17 := (ra_gk (hs153 179 (by omega))); have k_s153 : ra_g s153 179 20 = ra_g s 179 20 := (ra_gk (hs153 179 (by omega))); omega), ((hs153 (187) (by omega)).trans k7)⟩⟩
theorem l9_257_166 {n : Nat} {f : Nat → Int32} {d : Nat}  {σ : ra_V} (hpt : 0 ≤ ra_g σ 179 18 ∧ ra_g σ 179 18 ≤ ra_g σ 179 17 ∧ ra_g σ 179 17 ≤ ra_g σ 179 12 ∧ ra_g σ 179 12 ≤ 500 ∧ 0 ≤ ra_g σ 179 19 ∧ ra_g σ 179 19 ≤ 999) (hld : LD σ) (hB : x4TR σ B bn) (hN : x4RTK B bn σ ta) (hR : x5R6 r σ) : ∀ (s : ra_V) (hF : Fr (179) (189) σ s) (hk0 : s (180) = σ (180)) (hk1 : s (181) = σ (181)) (hk2 : s (182) = σ (182)) (hk3 : s (183) = σ (183)) (hk4 : s (184) = σ (184)) (hov : ∀ a, a ≠ 15 → a ≠ 16 → a ≠ 17 → a ≠ 18 → a ≠ 19 → a ≠ 20 → a ≠ 21 → ra_g s 179 a = ra_g σ 179 a) (hps : 0 ≤ ra_g s 179 18 ∧ ra_g s 179 18 ≤ ra_g s 179 17 ∧ ra_g s 179 17 ≤ ra_g s 179 12 ∧ ra_g s 179 12 ≤ 500 ∧ 0 ≤ ra_g s 179 19 ∧ ra_g s 179 19 ≤ 999) (hmo : ra_g σ 179 17 ≤ ra_g s 179 17) (h8 : ra_g σ 180 5 ≠ 8) (hua : US σ (ra_g s 188 0) (ra_g s 188 1)) (hta : ¬ TK σ (ra_g s 188 0) (ra_g s 188 1) (-1)) (h1 : 1 ≤ ra_g s 188 1 ∧ ra_g s 188 1 ≤ 999) (hRs : x5R6 r s) (hKs : x4RTK B bn s (tx_a B bn (x4tx_n B bn (x4tx_n B bn (x4tx_n B bn (tx_e B bn ta)))))) (hBs : x4TR s B bn) (k7 : s (187) = σ (187)) (hPA : x4PA B bn r ta (ra_g s 188 0)) (hPB : x4PB B bn r ta (ra_g s 188 0) (ra_g s 188 1)) (hPC : tx_rd B bn (x4tx_n B bn (x4tx_n B bn (tx_e B bn ta))) 0 9 = .inr (ra_g s 188 2, x4tx_n B bn (x4tx_n B bn (x4tx_n B bn (tx_e B bn ta))))), ra_P (g_Gs n f) g_sh 0 (d + 4) g_m_X8_readPart 166 [some (.index (179)), none] [] s (fun r9 s => (∃ z : Int, (z = 0 ∨ z = 1) ∧ ((z = 1 → ra_g s 179 20 = 3 → ra_g σ 179 17 < ra_g s 179 17) ∧ x5RO6 B bn s z (tx_part B bn r ta)) ∧ r9 = .inl (some (ra_I z))) ∧ Fr (179) (189) σ s ∧ s (181) = σ (181) ∧ s (182) = σ (182) ∧ s (183) = σ (183) ∧ s (184) = σ (184) ∧ (∀ a, a ≠ 15 → a ≠ 16 → a ≠ 17 → a ≠ 18 → a ≠ 19 → a ≠ 20 → a ≠ 21 → ra_g s 179 a = ra_g σ 179 a) ∧ LD s ∧ (0 ≤ ra_g s 179 18 ∧ ra_g s 179 18 ≤ ra_g s 179 17 ∧ ra_g s 179 17 ≤ ra_g s 179 12 ∧ ra_g s 179 12 ≤ 500 ∧ 0 ≤ ra_g s 179 19 ∧ ra_g s 179 19 ≤ 999) ∧ ra_g σ 179 17 ≤ ra_g s 179 17 ∧ s (187) = σ (187)) := by
    intro s hF hk0 hk1 hk2 hk3 hk4 hov hps hmo h8 hua hta h1 hRs hKs hBs k7 hPA hPB hPC
    have hw0 := WF_a hld.1
    unfold WFa at hw0
    have hl5 := hld.2.2.1
    have hR0 := hR
    obtain ⟨⟨⟨q0, q1, q2, q3, q4, q5⟩, q21, -, ⟨q15, q16⟩, qp⟩, qx⟩ := hR0
    have hN0 := hN
    obtain ⟨n1, n2, n3, -, n5, n6, n7⟩ := hN0
    have hRs0 := hRs
    obtain ⟨⟨⟨r0, r1, r2, r3, r4, r5⟩, r21, -, ⟨r15, r16⟩, -⟩, -⟩ := hRs0
    refine ra_load rfl rfl rfl rfl ?_
    refine ra_iconst rfl ?_
    refine ra_iconst rfl ?_
    refine ra_load rfl rfl rfl rfl ?_
    refine ra_getR rfl lk_8_38 (Nat.zero_le _) sh_179 rfl ?_
    refine ra_iconst rfl ?_
    refine ra_ialoadJ (j := 1) rfl sh_188 rfl (by decide) rfl (by decide) ?_
    have hr128 : ra_in (ra_g s (188) 1) := (ra_in_g _ _ _)
    refine ra_cQPs (s4_255 (by first | omega | (unfold ra_in at *; omega)) (by first | omega | (unfold ra_in at *; omega)) hr128 hps (by first | assumption | rfl | omega) hBs hKs (by omega)) rfl (ct_255 rfl lk_8_246 (Or.inl rfl) sh_179 (Nat.le_of_ble_eq_true rfl)) (fun z130 s129 hz130 hz130p hs129 => ?_)
    have hz130o := hz130p.1
    have hz130q := hz130p.2
    obtain ⟨hf131, hc132, hc133, hc134, hc135, hc136, he137, he138, he139, he140, he141⟩ := hs129
    have hF142 := Fr_tr (lo := 179) (hi := 189) hF hf131 (by omega)
    have hk143 : s129 (180) = σ (180) := hc132.trans hk0
    have hk144 : s129 (181) = σ (181) := hc133.trans hk1
    have hk145 : s129 (182) = σ (182) := hc134.trans hk2
    have hk146 : s129 (183) = σ (183) := hc135.trans hk3
    have hk147 : s129 (184) = σ (184) := hc136.trans hk4
    refine ra_ifne rfl rfl (ra_in01 hz130) (fun h148 => ?_) (fun h148 => ?_)
    · have to9 := hz130o (by omega)
      rw [toN3] at to9
      rw [toN3] at hz130q
      obtain ⟨-, ht1, hKt, hlt, hut, he1, he1b⟩ := hz130q.resolve_right (fun q => by omega)
      have hR2 : x5R6 r s129 := (x5R6_k hc132 ⟨by omega, by omega, (he137 21 (by decide) (by decide) (by decide) (by decide) (by decide) (by decide))⟩ hRs)
      exact ra_weak (by repeat' constructor) (l9_257_183 hpt hld hB hN hR s129 hF142 hk143 hk144 hk145 hk146 hk147 (fun a h15 h16 h17 h18 h19 h20 h21 => ((he137 a h15 h16 h17 h18 h19 h20).trans (hov a h15 h16 h17 h18 h19 h20 h21))) he139 (by have m_s129 := he140; omega) (by first | assumption | omega) (by rw [show ra_g s129 188 0 = ra_g s 188 0 from (he138 0 (by decide)), show ra_g s129 188 1 = ra_g s 188 1 from (he138 1 (by decide))]; exact hua) (by rw [show ra_g s129 188 0 = ra_g s 188 0 from (he138 0 (by decide)), show ra_g s129 188 1 = ra_g s 188 1 from (he138 1 (by decide))]; exact hta) (by have a := hz130o (by omega); rw [toN3] at a; have e := (he138 1 (by decide) : ra_g s129 188 1 = ra_g s 188 1); omega) (fun q => by have m_s129 := he140; have a := hz130o (by omega); omega) hR2 hKt (x4TR_k (he137 12 (by decide) (by decide) (by decide) (by decide) (by decide) (by decide)) he141 hBs) (he141.trans k7) (by rw [show ra_g s129 188 0 = ra_g s 188 0 from (he138 0 (by decide))]; exact hPA) (by rw [show ra_g s129 188 0 = ra_g s 188 0 from (he138 0 (by decide)), show ra_g s129 188 1 = ra_g s 188 1 from (he138 1 (by decide))]; exact hPB) (by rw [show ra_g s129 188 2 = ra_g s 188 2 from (he138 2 (by decide))]; exact hPC) (by rw [show ra_g s129 188 1 = ra_g s 188 1 from (he138 1 (by decide))]; exact ht1) hKs.2.2.2.2)
    · refine ra_iconst rfl ?_
      exact ra_ireturn rfl (ra_okB (Or.inl rfl)) ⟨⟨_, (Or.inl rfl), ⟨(fun q => absurd q (by decide)), (x5ro_t6 hz130q (by omega) rfl (fun x hx => x4pd_f (by omega) hPA hPB hPC hx))⟩, rfl⟩, ⟨hF142, hk144, hk145, hk146, hk147, (fun a h15 h16 h17 h18 h19 h20 h21 => ((he137 a h15 h16 h17 h18 h19 h20).trans (hov a h15 h16 h17 h18 h19 h20 h21))), (LD_k hk143 hld), he139, (by have m_s129 := he140; omega), (he141.trans k7)⟩⟩
theorem l9_257_155 {n : Nat} {f : Nat → Int32} {d : Nat}  {σ : ra_V} (hpt : 0 ≤ ra_g σ 179 18 ∧ ra_g σ 179 18 ≤ ra_g σ 179 17 ∧ ra_g σ 179 17 ≤ ra_g σ 179 12 ∧ ra_g σ 179 12 ≤ 500 ∧ 0 ≤ ra_g σ 179 19 ∧ ra_g σ 179 19 ≤ 999) (hld : LD σ) (hB : x4TR σ B bn) (hN : x4RTK B bn σ ta) (hR : x5R6 r σ) : ∀ (s : ra_V) (hF : Fr (179) (189) σ s) (hk0 : s (180) = σ (180)) (hk1 : s (181) = σ (181)) (hk2 : s (182) = σ (182)) (hk3 : s (183) = σ (183)) (hk4 : s (184) = σ (184)) (hov : ∀ a, a ≠ 15 → a ≠ 16 → a ≠ 17 → a ≠ 18 → a ≠ 19 → a ≠ 20 → a ≠ 21 → ra_g s 179 a = ra_g σ 179 a) (hps : 0 ≤ ra_g s 179 18 ∧ ra_g s 179 18 ≤ ra_g s 179 17 ∧ ra_g s 179 17 ≤ ra_g s 179 12 ∧ ra_g s 179 12 ≤ 500 ∧ 0 ≤ ra_g s 179 19 ∧ ra_g s 179 19 ≤ 999) (hmo : ra_g σ 179 17 ≤ ra_g s 179 17) (h8 : ra_g σ 180 5 ≠ 8) (hua : US σ (ra_g s 188 0) (ra_g s 188 1)) (hta : ¬ TK σ (ra_g s 188 0) (ra_g s 188 1) (-1)) (h1 : 1 ≤ ra_g s 188 1 ∧ ra_g s 188 1 ≤ 999) (hRs : x5R6 r s) (hKs : x4RTK B bn s (tx_a B bn (x4tx_n B bn (x4tx_n B bn (tx_e B bn ta))))) (hBs : x4TR s B bn) (k7 : s (187) = σ (187)) (hPA : x4PA B bn r ta (ra_g s 188 0)) (hPB : x4PB B bn r ta (ra_g s 188 0) (ra_g s 188 1)), ra_P (g_Gs n f) g_sh 0 (d + 4) g_m_X8_readPart 155 [some (.index (179)), none] [] s (fun r9 s => (∃ z : Int, (z = 0 ∨ z = 1) ∧ ((z = 1 → ra_g s 179 20 = 3 → ra_g σ 179 17 < ra_g s 179 17) ∧ x5RO6 B bn s z (tx_part B bn r ta)) ∧ r9 = .inl (some (ra_I z))) ∧ Fr (179) (189) σ s ∧ s (181) = σ (181) ∧ s (182) = σ (182) ∧ s (183) = σ (183) ∧ s (184) = σ (184) ∧ (∀ a, a ≠ 15 → a ≠ 16 → a ≠ 17 → a ≠ 18 → a ≠ 19 → a ≠ 20 → a ≠ 21 → ra_g s 179 a = ra_g σ 179 a) ∧ LD s ∧ (0 ≤ ra_g s 179 18 ∧ ra_g s 179 18 ≤ ra_g s 179 17 ∧ ra_g s 179 17 ≤ ra_g s 179 12 ∧ ra_g s 179 12 ≤ 500 ∧ 0 ≤ ra_g s 179 19 ∧ ra_g s 179 19 ≤ 999) ∧ ra_g σ 179 17 ≤ ra_g s 179 17 ∧ s (187) = σ (187)) := by
    intro s hF hk0 hk1 hk2 hk3 hk4 hov hps hmo h8 hua hta h1 hRs hKs hBs k7 hPA hPB
    have hw0 := WF_a hld.1
    unfold WFa at hw0
    have hl5 := hld.2.2.1
    have hR0 := hR
    obtain ⟨⟨⟨q0, q1, q2, q3, q4, q5⟩, q21, -, ⟨q15, q16⟩, qp⟩, qx⟩ := hR0
    have hN0 := hN
    obtain ⟨n1, n2, n3, -, n5, n6, n7⟩ := hN0
    have hRs0 := hRs
    obtain ⟨⟨⟨r0, r1, r2, r3, r4, r5⟩, r21, -, ⟨r15, r16⟩, -⟩, -⟩ := hRs0
    refine ra_load rfl rfl rfl rfl ?_
    refine ra_iconst rfl ?_
    refine ra_iconst rfl ?_
    refine ra_bipush rfl (by decide) ?_
    refine ra_cQPs (s4_255 (by first | omega | (unfold ra_in at *; omega)) (by first | omega | (unfold ra_in at *; omega)) (by first | omega | (unfold ra_in at *; omega)) hps (by first | assumption | rfl | omega) hBs hKs (by omega)) rfl (ct_255 rfl lk_8_246 (Or.inl rfl) sh_179 (Nat.le_of_ble_eq_true rfl)) (fun z109 s108 hz109 hz109p hs108 => ?_)
    have hz109o := hz109p.1
    have hz109q := hz109p.2
    obtain ⟨hf110, hc111, hc112, hc113, hc114, hc115, he116, he117, he118, he119, he120⟩ := hs108
    have hF121 := Fr_tr (lo := 179) (hi := 189) hF hf110 (by omega)
    have hk122 : s108 (180) = σ (180) := hc111.trans hk0
    have hk123 : s108 (181) = σ (181) := hc112.trans hk1
    have hk124 : s108 (182) = σ (182) := hc113.trans hk2
    have hk125 : s108 (183) = σ (183) := hc114.trans hk3
    have hk126 : s108 (184) = σ (184) := hc115.trans hk4
    refine ra_ifeq rfl rfl (ra_in01 hz109) (fun h127 => ?_) (fun h127 => ?_)
    · refine ra_iconst rfl ?_
      exact ra_ireturn rfl (ra_okB (Or.inl rfl)) ⟨⟨_, (Or.inl rfl), ⟨(fun q => absurd q (by decide)), (x5ro_t6 hz109q (by omega) rfl (fun x hx => x4pc_f (by omega) hPA hPB hx))⟩, rfl⟩, ⟨hF121, hk123, hk124, hk125, hk126, (fun a h15 h16 h17 h18 h19 h20 h21 => ((he116 a h15 h16 h17 h18 h19 h20).trans (hov a h15 h16 h17 h18 h19 h20 h21))), (LD_k hk122 hld), he118, (by have m_s108 := he119; omega), (he120.trans k7)⟩⟩
    · have to9 := hz109o (by omega)
      rw [toN2] at to9
      rw [toN2] at hz109q
      obtain ⟨-, ht1, hKt, hlt, hut, he1, he1b⟩ := hz109q.resolve_right (fun q => by omega)
      have hR2 : x5R6 r s108 := (x5R6_k hc111 ⟨by omega, by omega, (he116 21 (by decide) (by decide) (by decide) (by decide) (by decide) (by decide))⟩ hRs)
      exact ra_weak (by repeat' constructor) (l9_257_166 hpt hld hB hN hR s108 hF121 hk122 hk123 hk124 hk125 hk126 (fun a h15 h16 h17 h18 h19 h20 h21 => ((he116 a h15 h16 h17 h18 h19 h20).trans (hov a h15 h16 h17 h18 h19 h20 h21))) he118 (by have m_s108 := he119; omega) (by first | assumption | omega) (by rw [show ra_g s108 188 0 = ra_g s 188 0 from (he117 0 (by decide)), show ra_g s108 188 1 = ra_g s 188 1 from (he117 1 (by decide))]; exact hua) (by rw [show ra_g s108 188 0 = ra_g s 188 0 from (he117 0 (by decide)), show ra_g s108 188 1 = ra_g s 188 1 from (he117 1 (by decide))]; exact hta) (by have e : ra_g s108 188 1 = ra_g s 188 1 := (he117 1 (by decide)); omega) hR2 hKt (x4TR_k (he116 12 (by decide) (by decide) (by decide) (by decide) (by decide) (by decide)) he120 hBs) (he120.trans k7) (by rw [show ra_g s108 188 0 = ra_g s 188 0 from (he117 0 (by decide))]; exact hPA) (by rw [show ra_g s108 188 0 = ra_g s 188 0 from (he117 0 (by decide)), show ra_g s108 188 1 = ra_g s 188 1 from (he117 1 (by decide))]; exact hPB) ht1)
theorem l9_257_143 {n : Nat} {f : Nat → Int32} {d : Nat}  {σ : ra_V} (hpt : 0 ≤ ra_g σ 179 18 ∧ ra_g σ 179 18 ≤ ra_g σ 179 17 ∧ ra_g σ 179 17 ≤ ra_g σ 179 12 ∧ ra_g σ 179 12 ≤ 500 ∧ 0 ≤ ra_g σ 179 19 ∧ ra_g σ 179 19 ≤ 999) (hld : LD σ) (hB : x4TR σ B bn) (hN : x4RTK B bn σ ta) (hR : x5R6 r σ) : ∀ (s : ra_V) (hF : Fr (179) (189) σ s) (hk0 : s (180) = σ (180)) (hk1 : s (181) = σ (181)) (hk2 : s (182) = σ (182)) (hk3 : s (183) = σ (183)) (hk4 : s (184) = σ (184)) (hov : ∀ a, a ≠ 15 → a ≠ 16 → a ≠ 17 → a ≠ 18 → a ≠ 19 → a ≠ 20 → a ≠ 21 → ra_g s 179 a = ra_g σ 179 a) (hps : 0 ≤ ra_g s 179 18 ∧ ra_g s 179 18 ≤ ra_g s 179 17 ∧ ra_g s 179 17 ≤ ra_g s 179 12 ∧ ra_g s 179 12 ≤ 500 ∧ 0 ≤ ra_g s 179 19 ∧ ra_g s 179 19 ≤ 999) (hmo : ra_g σ 179 17 ≤ ra_g s 179 17) (h8 : ra_g σ 180 5 ≠ 8) (hu : US σ (ra_g s 188 0) (ra_g s 179 19)) (htk : ¬ TK σ (ra_g s 188 0) (ra_g s 179 19) (-1)) (hRs : x5R6 r s) (hKs : x4RTK B bn s (tx_a B bn (x4tx_n B bn (tx_e B bn ta)))) (hBs : x4TR s B bn) (k7 : s (187) = σ (187)) (hPA : x4PA B bn r ta (ra_g s 188 0)) (hPB : x4PB B bn r ta (ra_g s 188 0) (ra_g s 179 19)), ra_P (g_Gs n f) g_sh 0 (d + 4) g_m_X8_readPart 143 [some (.index (179)), none] [] s (fun r9 s => (∃ z : Int, (z = 0 ∨ z = 1) ∧ ((z = 1 → ra_g s 179 20 = 3 → ra_g σ 179 17 < ra_g s 179 17) ∧ x5RO6 B bn s z (tx_part B bn r ta)) ∧ r9 = .inl (some (ra_I z))) ∧ Fr (179) (189) σ s ∧ s (181) = σ (181) ∧ s (182) = σ (182) ∧ s (183) = σ (183) ∧ s (184) = σ (184) ∧ (∀ a, a ≠ 15 → a ≠ 16 → a ≠ 17 → a ≠ 18 → a ≠ 19 → a ≠ 20 → a ≠ 21 → ra_g s 179 a = ra_g σ 179 a) ∧ LD s ∧ (0 ≤ ra_g s 179 18 ∧ ra_g s 179 18 ≤ ra_g s 179 17 ∧ ra_g s 179 17 ≤ ra_g s 179 12 ∧ ra_g s 179 12 ≤ 500 ∧ 0 ≤ ra_g s 179 19 ∧ ra_g s 179 19 ≤ 999) ∧ ra_g σ 179 17 ≤ ra_g s 179 17 ∧ s (187) = σ (187)) := by
    intro s hF hk0 hk1 hk2 hk3 hk4 hov hps hmo h8 hu htk hRs hKs hBs k7 hPA hPB
    have hw0 := WF_a hld.1
    unfold WFa at hw0
    have hl5 := hld.2.2.1
    have hR0 := hR
    obtain ⟨⟨⟨q0, q1, q2, q3, q4, q5⟩, q21, -, ⟨q15, q16⟩, qp⟩, qx⟩ := hR0
    have hN0 := hN
    obtain ⟨n1, n2, n3, -, n5, n6, n7⟩ := hN0
    have hRs0 := hRs
    obtain ⟨⟨⟨r0, r1, r2, r3, r4, r5⟩, r21, -, ⟨r15, r16⟩, -⟩, -⟩ := hRs0
    refine ra_load rfl rfl rfl rfl ?_
    refine ra_iconst rfl ?_
    refine ra_iconst rfl ?_
    refine ra_sipush rfl (by decide) ?_
    refine ra_cQPs (s4_255 (by first | omega | (unfold ra_in at *; omega)) (by first | omega | (unfold ra_in at *; omega)) (by first | omega | (unfold ra_in at *; omega)) hps (by first | assumption | rfl | omega) hBs hKs (by omega)) rfl (ct_255 rfl lk_8_246 (Or.inl rfl) sh_179 (Nat.le_of_ble_eq_true rfl)) (fun z89 s88 hz89 hz89p hs88 => ?_)
    have hz89o := hz89p.1
    have hz89q := hz89p.2
    obtain ⟨hf90, hc91, hc92, hc93, hc94, hc95, he96, he97, he98, he99, he100⟩ := hs88
    have hF101 := Fr_tr (lo := 179) (hi := 189) hF hf90 (by omega)
    have hk102 : s88 (180) = σ (180) := hc91.trans hk0
    have hk103 : s88 (181) = σ (181) := hc92.trans hk1
    have hk104 : s88 (182) = σ (182) := hc93.trans hk2
    have hk105 : s88 (183) = σ (183) := hc94.trans hk3
    have hk106 : s88 (184) = σ (184) := hc95.trans hk4
    refine ra_ifeq rfl rfl (ra_in01 hz89) (fun h107 => ?_) (fun h107 => ?_)
    · refine ra_iconst rfl ?_
      exact ra_ireturn rfl (ra_okB (Or.inl rfl)) ⟨⟨_, (Or.inl rfl), ⟨(fun q => absurd q (by decide)), (x5ro_t6 hz89q (by omega) rfl (fun x hx => x5pb_f6 hRs (WF_a (LD_k hk0 hld).1) (by omega) hPA hx))⟩, rfl⟩, ⟨hF101, hk103, hk104, hk105, hk106, (fun a h15 h16 h17 h18 h19 h20 h21 => ((he96 a h15 h16 h17 h18 h19 h20).trans (hov a h15 h16 h17 h18 h19 h20 h21))), (LD_k hk102 hld), he98, (by have m_s88 := he99; omega), (he100.trans k7)⟩⟩
    · have to9 := hz89o (by omega)
      rw [toN1] at to9
      rw [toN1] at hz89q
      obtain ⟨-, ht1, hKt, hlt, hut, he1, he1b⟩ := hz89q.resolve_right (fun q => by omega)
      have hR2 : x5R6 r s88 := (x5R6_k hc91 ⟨by omega, by omega, (he96 21 (by decide) (by decide) (by decide) (by decide) (by decide) (by decide))⟩ hRs)
      exact ra_weak (by repeat' constructor) (l9_257_155 hpt hld hB hN hR s88 hF101 hk102 hk103 hk104 hk105 hk106 (fun a h15 h16 h17 h18 h19 h20 h21 => ((he96 a h15 h16 h17 h18 h19 h20).trans (hov a h15 h16 h17 h18 h19 h20 h21))) he98 (by have m_s88 := he99; omega) (by first | assumption | omega) (by have hr1 := hz89o (by omega); rw [toN1] at hr1; have hr1 : (1 ≤ ra_g s88 188 1 ∧ ra_g s88 188 1 ≤ 999) ∧ ra_g s88 188 1 = ra_g s 179 19 := ⟨by omega, by omega⟩; have e0 : ra_g s88 188 0 = ra_g s 188 0 := (he97 0 (by decide)); rw [show ra_g s88 188 0 = ra_g s 188 0 by omega, show ra_g s88 188 1 = ra_g s 179 19 by omega]; exact hu) (by have hr1 := hz89o (by omega); rw [toN1] at hr1; have hr1 : (1 ≤ ra_g s88 188 1 ∧ ra_g s88 188 1 ≤ 999) ∧ ra_g s88 188 1 = ra_g s 179 19 := ⟨by omega, by omega⟩; have e0 : ra_g s88 188 0 = ra_g s 188 0 := (he97 0 (by decide)); rw [show ra_g s88 188 0 = ra_g s 188 0 by omega, show ra_g s88 188 1 = ra_g s 179 19 by omega]; exact htk) (by have hr1 := hz89o (by omega); rw [toN1] at hr1; have hr1 : (1 ≤ ra_g s88 188 1 ∧ ra_g s88 188 1 ≤ 999) ∧ ra_g s88 188 1 = ra_g s 179 19 := ⟨by omega, by omega⟩; have e0 : ra_g s88 188 0 = ra_g s 188 0 := (he97 0 (by decide)); omega) hR2 hKt (x4TR_k (he96 12 (by decide) (by decide) (by decide) (by decide) (by decide) (by decide)) he100 hBs) (he100.trans k7) (by rw [show ra_g s88 188 0 = ra_g s 188 0 from (he97 0 (by decide))]; exact hPA) (by rw [show ra_g s88 188 0 = ra_g s 188 0 from (he97 0 (by decide)), show ra_g s88 188 1 = ra_g s 179 19 by omega]; exact hPB))
theorem l9_257_92 {n : Nat} {f : Nat → Int32} {d : Nat}  {σ : ra_V} (hpt : 0 ≤ ra_g σ 179 18 ∧ ra_g σ 179 18 ≤ ra_g σ 179 17 ∧ ra_g σ 179 17 ≤ ra_g σ 179 12 ∧ ra_g σ 179 12 ≤ 500 ∧ 0 ≤ ra_g σ 179 19 ∧ ra_g σ 179 19 ≤ 999) (hld : LD σ) (hB : x4TR σ B bn) (hN : x4RTK B bn σ ta) (hR : x5R6 r σ) : ∀ (s : ra_V) (hF : Fr (179) (189) σ s) (hk0 : s (180) = σ (180)) (hk1 : s (181) = σ (181)) (hk2 : s (182) = σ (182)) (hk3 : s (183) = σ (183)) (hk4 : s (184) = σ (184)) (hov : ∀ a, a ≠ 15 → a ≠ 16 → a ≠ 17 → a ≠ 18 → a ≠ 19 → a ≠ 20 → a ≠ 21 → ra_g s 179 a = ra_g σ 179 a) (hps : 0 ≤ ra_g s 179 18 ∧ ra_g s 179 18 ≤ ra_g s 179 17 ∧ ra_g s 179 17 ≤ ra_g s 179 12 ∧ ra_g s 179 12 ≤ 500 ∧ 0 ≤ ra_g s 179 19 ∧ ra_g s 179 19 ≤ 999) (hmo : ra_g σ 179 17 ≤ ra_g s 179 17) (h8 : ra_g σ 180 5 ≠ 8) (hr : 0 ≤ ra_g s 188 0 ∧ ra_g s 188 0 ≤ 999) (hv : 1 ≤ ra_g s 179 19 ∧ ra_g s 179 19 ≤ 999) (hRs : x5R6 r s) (hKs : x4RTK B bn s (tx_a B bn (x4tx_n B bn (tx_e B bn ta)))) (hBs : x4TR s B bn) (k7 : s (187) = σ (187)) (hPA : x4PA B bn r ta (ra_g s 188 0)) (hN2 : tx_rd B bn (x4tx_n B bn (tx_e B bn ta)) 1 999 = .inr (ra_g s 179 19, x4tx_n B bn (x4tx_n B bn (tx_e B bn ta)))), ra_P (g_Gs n f) g_sh 0 (d + 4) g_m_X8_readPart 92 [some (.index (179)), none] [] s (fun r9 s => (∃ z : Int, (z = 0 ∨ z = 1) ∧ ((z = 1 → ra_g s 179 20 = 3 → ra_g σ 179 17 < ra_g s 179 17) ∧ x5RO6 B bn s z (tx_part B bn r ta)) ∧ r9 = .inl (some (ra_I z))) ∧ Fr (179) (189) σ s ∧ s (181) = σ (181) ∧ s (182) = σ (182) ∧ s (183) = σ (183) ∧ s (184) = σ (184) ∧ (∀ a, a ≠ 15 → a ≠ 16 → a ≠ 17 → a ≠ 18 → a ≠ 19 → a ≠ 20 → a ≠ 21 → ra_g s 179 a = ra_g σ 179 a) ∧ LD s ∧ (0 ≤ ra_g s 179 18 ∧ ra_g s 179 18 ≤ ra_g s 179 17 ∧ ra_g s 179 17 ≤ ra_g s 179 12 ∧ ra_g s 179 12 ≤ 500 ∧ 0 ≤ ra_g s 179 19 ∧ ra_g s 179 19 ≤ 999) ∧ ra_g σ 179 17 ≤ ra_g s 179 17 ∧ s (187) = σ (187)) := by
    intro s hF hk0 hk1 hk2 hk3 hk4 hov hps hmo h8 hr hv hRs hKs hBs k7 hPA hN2
    have hw0 := WF_a hld.1
    unfold WFa at hw0
    have hl5 := hld.2.2.1
    have hR0 := hR
    obtain ⟨⟨⟨q0, q1, q2, q3, q4, q5⟩, q21, -, ⟨q15, q16⟩, qp⟩, qx⟩ := hR0
    have hN0 := hN
    obtain ⟨n1, n2, n3, -, n5, n6, n7⟩ := hN0
    have hRs0 := hRs
    obtain ⟨⟨⟨r0, r1, r2, r3, r4, r5⟩, r21, -, ⟨r15, r16⟩, -⟩, -⟩ := hRs0
    refine ra_load rfl rfl rfl rfl ?_
    refine ra_load rfl rfl rfl rfl ?_
    refine ra_getR rfl lk_8_38 (Nat.zero_le _) sh_179 rfl ?_
    refine ra_iconst rfl ?_
    refine ra_ialoadJ (j := 0) rfl sh_188 rfl (by decide) rfl (by decide) ?_
    have hr78 : ra_in (ra_g s (188) 0) := (ra_in_g _ _ _)
    refine ra_i2l rfl hr78 ?_
    refine ra_load rfl rfl rfl rfl ?_
    refine ra_getI rfl lk_8_201 (Nat.zero_le _) sh_179 rfl ?_
    have hr79 : ra_in (ra_g s (179) 19) := (ra_in_g _ _ _)
    refine ra_i2l rfl hr79 ?_
    refine ra_cQPp (sp_211 hr78 hr79 (WF_a (LD_k hk0 hld).1)) rfl (ct_211 rfl lk_8_103 (Or.inl rfl) sh_179 (Nat.le_of_ble_eq_true rfl)) (fun z81 hz81 hz81p => ?_)
    refine ra_ifne rfl rfl (ra_in01 hz81) (fun h82 => ?_) (fun h82 => ?_)
    · refine ra_load rfl rfl rfl rfl ?_
      refine ra_load rfl rfl rfl rfl ?_
      refine ra_getR rfl lk_8_38 (Nat.zero_le _) sh_179 rfl ?_
      refine ra_iconst rfl ?_
      refine ra_ialoadJ (j := 0) rfl sh_188 rfl (by decide) rfl (by decide) ?_
      have hr83 : ra_in (ra_g s (188) 0) := (ra_in_g _ _ _)
      refine ra_i2l rfl hr83 ?_
      refine ra_load rfl rfl rfl rfl ?_
      refine ra_getI rfl lk_8_201 (Nat.zero_le _) sh_179 rfl ?_
      have hr84 : ra_in (ra_g s (179) 19) := (ra_in_g _ _ _)
      refine ra_i2l rfl hr84 ?_
      refine ra_iconst rfl ?_
      refine ra_cQPp (sp_213 hr83 hr84 (by first | omega | (unfold ra_in at *; omega))) rfl (ct_213 rfl lk_8_107 (Or.inl rfl) sh_179 (Nat.le_of_ble_eq_true rfl)) (fun z86 hz86 hz86p => ?_)
      refine ra_ifeq rfl rfl (ra_in01 hz86) (fun h87 => ?_) (fun h87 => ?_)
      · exact ra_weak (by repeat' constructor) (l9_257_143 hpt hld hB hN hR s hF hk0 hk1 hk2 hk3 hk4 (fun a h15 h16 h17 h18 h19 h20 h21 => (hov a h15 h16 h17 h18 h19 h20 h21)) hps (by omega) (by first | assumption | omega) (US_k hk0 (hz81p.mp (by omega))) (fun q => absurd (hz86p.mpr (TK_k hk0.symm q)) (by omega)) hRs hKs hBs k7 hPA (x5pb_16 hRs (LD_k hk0 hld) hN2 (hz81p.mp (by omega)) (fun q => absurd (hz86p.mpr q) (by omega))))
      · refine ra_load rfl rfl rfl rfl ?_
        refine ra_iconst rfl ?_
        refine ra_cQP (s4_252 (by first | omega | (unfold ra_in at *; omega))) rfl (ct_252 rfl lk_8_233 (Or.inl rfl) sh_179 (Nat.le_of_ble_eq_true rfl)) (fun z162 s161 hz162 hz162p hs161 => ?_)
        obtain ⟨hf163, he164, he165⟩ := hs161
        have hF166 := Fr_tr (lo := 179) (hi := 189) hF hf163 (by omega)
        have hk167 : s161 (180) = σ (180) := (hf163 (180) (by omega)).trans hk0
        have hk168 : s161 (181) = σ (181) := (hf163 (181) (by omega)).trans hk1
        have hk169 : s161 (182) = σ (182) := (hf163 (182) (by omega)).trans hk2
        have hk170 : s161 (183) = σ (183) := (hf163 (183) (by omega)).trans hk3
        have hk171 : s161 (184) = σ (184) := (hf163 (184) (by omega)).trans hk4
        exact ra_ireturn rfl (ra_okB hz162) ⟨⟨_, hz162, ⟨(fun q => absurd q (by omega)), (x5ro_f6 (c := 4) (a := tx_a B bn (x4tx_n B bn (tx_e B bn ta))) hz162p (x5pb_t6 hRs (LD_k hk0 hld) (by omega) hPA hN2 (hz81p.mp (by omega)) (hz86p.mp (by omega))) (by have q := he165 hRs.1.2.2.2.1.1; omega) (by have q := he165 hRs.1.2.2.2.1.1; have q9 := hKs.1; omega))⟩, rfl⟩, ⟨hF166, hk168, hk169, hk170, hk171, (fun a h15 h16 h17 h18 h19 h20 h21 => ((he164 a h15 h16).trans (hov a h15 h16 h17 h18 h19 h20 h21))), (LD_k hk167 hld), (pt_e (he164 12 (by decide) (by decide)) (he164 17 (by decide) (by decide)) (he164 18 (by decide) (by decide)) (he164 19 (by decide) (by decide)) hps), (by have m_s161 : ra_g s161 179 17 = ra_g s 179 17 := (he164 17 (by decide) (by decide)); have k_s161 : ra_g s161 179 20 = ra_g s 179 20 := (he164 20 (by decide) (by decide)); omega), ((hf163 (187) (by omega)).trans k7)⟩⟩
    · refine ra_load rfl rfl rfl rfl ?_
      refine ra_iconst rfl ?_
      refine ra_cQP (s4_252 (by first | omega | (unfold ra_in at *; omega))) rfl (ct_252 rfl lk_8_233 (Or.inl rfl) sh_179 (Nat.le_of_ble_eq_true rfl)) (fun z173 s172 hz173 hz173p hs172 => ?_)
      obtain ⟨hf174, he175, he176⟩ := hs172
      have hF177 := Fr_tr (lo := 179) (hi := 189) hF hf174 (by omega)
      have hk178 : s172 (180) = σ (180) := (hf174 (180) (by omega)).trans hk0
      have hk179 : s172 (181) = σ (181) := (hf174 (181) (by omega)).trans hk1
      have hk180 : s172 (182) = σ (182) := (hf174 (182) (by omega)).trans hk2
      have hk181 : s172 (183) = σ (183) := (hf174 (183) (by omega)).trans hk3
      have hk182 : s172 (184) = σ (184) := (hf174 (184) (by omega)).trans hk4
      exact ra_ireturn rfl (ra_okB hz173) ⟨⟨_, hz173, ⟨(fun q => absurd q (by omega)), (x5ro_f6 (c := 2) (a := tx_a B bn (x4tx_n B bn (tx_e B bn ta))) hz173p (x5pb_n6 hRs (by omega) hPA hN2 (fun q => absurd (hz81p.mpr q) (by omega))) (by have q := he176 hRs.1.2.2.2.1.1; omega) (by have q := he176 hRs.1.2.2.2.1.1; have q9 := hKs.1; omega))⟩, rfl⟩, ⟨hF177, hk179, hk180, hk181, hk182, (fun a h15 h16 h17 h18 h19 h20 h21 => ((he175 a h15 h16).trans (hov a h15 h16 h17 h18 h19 h20 h21))), (LD_k hk178 hld), (pt_e (he175 12 (by decide) (by decide)) (he175 17 (by decide) (by decide)) (he175 18 (by decide) (by decide)) (he175 19 (by decide) (by decide)) hps), (by have m_s172 : ra_g s172 179 17 = ra_g s 179 17 := (he175 17 (by decide) (by decide)); have k_s172 : ra_g s172 179 20 = ra_g s 179 20 := (he175 20 (by decide) (by decide)); omega), ((hf174 (187) (by omega)).trans k7)⟩⟩
theorem l9_257_67 {n : Nat} {f : Nat → Int32} {d : Nat}  {σ : ra_V} (hpt : 0 ≤ ra_g σ 179 18 ∧ ra_g σ 179 18 ≤ ra_g σ 179 17 ∧ ra_g σ 179 17 ≤ ra_g σ 179 12 ∧ ra_g σ 179 12 ≤ 500 ∧ 0 ≤ ra_g σ 179 19 ∧ ra_g σ 179 19 ≤ 999) (hld : LD σ) (hB : x4TR σ B bn) (hN : x4RTK B bn σ ta) (hR : x5R6 r σ) : ∀ (s : ra_V) (hF : Fr (179) (189) σ s) (hk0 : s (180) = σ (180)) (hk1 : s (181) = σ (181)) (hk2 : s (182) = σ (182)) (hk3 : s (183) = σ (183)) (hk4 : s (184) = σ (184)) (hov : ∀ a, a ≠ 15 → a ≠ 16 → a ≠ 17 → a ≠ 18 → a ≠ 19 → a ≠ 20 → a ≠ 21 → ra_g s 179 a = ra_g σ 179 a) (hps : 0 ≤ ra_g s 179 18 ∧ ra_g s 179 18 ≤ ra_g s 179 17 ∧ ra_g s 179 17 ≤ ra_g s 179 12 ∧ ra_g s 179 12 ≤ 500 ∧ 0 ≤ ra_g s 179 19 ∧ ra_g s 179 19 ≤ 999) (hmo : ra_g σ 179 17 ≤ ra_g s 179 17) (h8 : ra_g σ 180 5 ≠ 8) (hRs : x5R6 r s) (hKs : x4RTK B bn s (tx_a B bn (tx_e B bn ta))) (hBs : x4TR s B bn) (k7 : s (187) = σ (187)) (hPA : x4PA B bn r ta (ra_g s 179 19)), ra_P (g_Gs n f) g_sh 0 (d + 4) g_m_X8_readPart 67 [some (.index (179)), none] [] s (fun r9 s => (∃ z : Int, (z = 0 ∨ z = 1) ∧ ((z = 1 → ra_g s 179 20 = 3 → ra_g σ 179 17 < ra_g s 179 17) ∧ x5RO6 B bn s z (tx_part B bn r ta)) ∧ r9 = .inl (some (ra_I z))) ∧ Fr (179) (189) σ s ∧ s (181) = σ (181) ∧ s (182) = σ (182) ∧ s (183) = σ (183) ∧ s (184) = σ (184) ∧ (∀ a, a ≠ 15 → a ≠ 16 → a ≠ 17 → a ≠ 18 → a ≠ 19 → a ≠ 20 → a ≠ 21 → ra_g s 179 a = ra_g σ 179 a) ∧ LD s ∧ (0 ≤ ra_g s 179 18 ∧ ra_g s 179 18 ≤ ra_g s 179 17 ∧ ra_g s 179 17 ≤ ra_g s 179 12 ∧ ra_g s 179 12 ≤ 500 ∧ 0 ≤ ra_g s 179 19 ∧ ra_g s 179 19 ≤ 999) ∧ ra_g σ 179 17 ≤ ra_g s 179 17 ∧ s (187) = σ (187)) := by
    intro s hF hk0 hk1 hk2 hk3 hk4 hov hps hmo h8 hRs hKs hBs k7 hPA
    have hw0 := WF_a hld.1
    unfold WFa at hw0
    have hl5 := hld.2.2.1
    have hR0 := hR
    obtain ⟨⟨⟨q0, q1, q2, q3, q4, q5⟩, q21, -, ⟨q15, q16⟩, qp⟩, qx⟩ := hR0
    have hN0 := hN
    obtain ⟨n1, n2, n3, -, n5, n6, n7⟩ := hN0
    have hRs0 := hRs
    obtain ⟨⟨⟨r0, r1, r2, r3, r4, r5⟩, r21, -, ⟨r15, r16⟩, -⟩, -⟩ := hRs0
    refine ra_load rfl rfl rfl rfl ?_
    refine ra_iconst rfl ?_
    refine ra_iconst rfl ?_
    refine ra_sipush rfl (by decide) ?_
    refine ra_cQPs (s4_255 (by first | omega | (unfold ra_in at *; omega)) (by first | omega | (unfold ra_in at *; omega)) (by first | omega | (unfold ra_in at *; omega)) hps (by first | assumption | rfl | omega) hBs hKs (by omega)) rfl (ct_255 rfl lk_8_246 (Or.inl rfl) sh_179 (Nat.le_of_ble_eq_true rfl)) (fun z48 s47 hz48 hz48p hs47 => ?_)
    have hz48o := hz48p.1
    have hz48q := hz48p.2
    obtain ⟨hf49, hc50, hc51, hc52, hc53, hc54, he55, he56, he57, he58, he59⟩ := hs47
    have hF60 := Fr_tr (lo := 179) (hi := 189) hF hf49 (by omega)
    have hk61 : s47 (180) = σ (180) := hc50.trans hk0
    have hk62 : s47 (181) = σ (181) := hc51.trans hk1
    have hk63 : s47 (182) = σ (182) := hc52.trans hk2
    have hk64 : s47 (183) = σ (183) := hc53.trans hk3
    have hk65 : s47 (184) = σ (184) := hc54.trans hk4
    refine ra_ifeq rfl rfl (ra_in01 hz48) (fun h66 => ?_) (fun h66 => ?_)
    · refine ra_iconst rfl ?_
      exact ra_ireturn rfl (ra_okB (Or.inl rfl)) ⟨⟨_, (Or.inl rfl), ⟨(fun q => absurd q (by decide)), (x5ro_t6 hz48q (by omega) rfl (fun x hx => x5pa_f6 hRs (WF_a (LD_k hk0 hld).1) (by omega) hx))⟩, rfl⟩, ⟨hF60, hk62, hk63, hk64, hk65, (fun a h15 h16 h17 h18 h19 h20 h21 => ((he55 a h15 h16 h17 h18 h19 h20).trans (hov a h15 h16 h17 h18 h19 h20 h21))), (LD_k hk61 hld), he57, (by have m_s47 := he58; omega), (he59.trans k7)⟩⟩
    · have hr0 := hz48o (by omega)
      rw [toN0] at hr0
      rw [toN0] at hz48q
      obtain ⟨-, ht1, hKt, hlt, hut, he1, he1b⟩ := hz48q.resolve_right (fun q => by omega)
      refine ra_load rfl rfl rfl rfl ?_
      refine ra_iconst rfl ?_
      refine ra_sipush rfl (by decide) ?_
      refine ra_cQPs (s4_254 (by first | omega | (unfold ra_in at *; omega)) (by first | omega | (unfold ra_in at *; omega)) (by have q := he57; omega) (x4RTK_k rfl rfl rfl rfl hKt) (by omega)) rfl (ct_254 rfl lk_8_236 (Or.inl rfl) sh_179 (Nat.le_of_ble_eq_true rfl)) (fun z68 s67 hz68 hz68p hs67 => ?_)
      have hz68o := hz68p.1
      have hz68q := hz68p.2
      obtain ⟨hf69, he70⟩ := hs67
      have hF71 := Fr_tr (lo := 179) (hi := 189) hF60 hf69 (by omega)
      have hk72 : s67 (180) = σ (180) := (hf69 (180) (by omega)).trans hk61
      have hk73 : s67 (181) = σ (181) := (hf69 (181) (by omega)).trans hk62
      have hk74 : s67 (182) = σ (182) := (hf69 (182) (by omega)).trans hk63
      have hk75 : s67 (183) = σ (183) := (hf69 (183) (by omega)).trans hk64
      have hk76 : s67 (184) = σ (184) := (hf69 (184) (by omega)).trans hk65
      refine ra_ifne rfl rfl (ra_in01 hz68) (fun h77 => ?_) (fun h77 => ?_)
      · obtain ⟨-, hr2, hl2, hu2, he2, he2b⟩ := hz68q.resolve_right (fun q => by omega)
        have hv19 : ra_g s67 179 19 = ra_g s47 179 19 := (he70 19 (by decide) (by decide))
        have e80 : ra_g s67 188 0 = ra_g s47 188 0 := ra_gk (hf69 188 (by omega))
        rw [← hv19] at hr2
        exact ra_weak (by repeat' constructor) (l9_257_92 hpt hld hB hN hR s67 hF71 hk72 hk73 hk74 hk75 hk76 (fun a h15 h16 h17 h18 h19 h20 h21 => ((he70 a h15 h16).trans ((he55 a h15 h16 h17 h18 h19 h20).trans (hov a h15 h16 h17 h18 h19 h20 h21)))) (pt_e (he70 12 (by decide) (by decide)) (he70 17 (by decide) (by decide)) (he70 18 (by decide) (by decide)) (he70 19 (by decide) (by decide)) he57) (by have m_s47 := he58; have m_s67 : ra_g s67 179 17 = ra_g s47 179 17 := (he70 17 (by decide) (by decide)); have k_s67 : ra_g s67 179 20 = ra_g s47 179 20 := (he70 20 (by decide) (by decide)); omega) (by first | assumption | omega) (by have e := (ra_gk (hf69 188 (by omega)) : ra_g s67 188 0 = ra_g s47 188 0); omega) (by have e := (he70 19 (by decide) (by decide)); have a := hz68o (by omega); omega) (x5R6_k ((hf69 (180) (by omega)).trans hc50) ⟨by omega, by omega, ((he70 21 (by decide) (by decide)).trans (he55 21 (by decide) (by decide) (by decide) (by decide) (by decide) (by decide)))⟩ hRs) (x4RTK_k (he70 17 (by decide) (by decide)) (he70 18 (by decide) (by decide)) (he70 19 (by decide) (by decide)) (he70 20 (by decide) (by decide)) hKt) (x4TR_k ((he70 12 (by decide) (by decide)).trans (he55 12 (by decide) (by decide) (by decide) (by decide) (by decide) (by decide))) ((hf69 (187) (by omega)).trans he59) hBs) (((hf69 (187) (by omega)).trans he59).trans k7) (by rw [show ra_g s67 188 0 = ra_g s 179 19 by omega]; exact hPA) hr2)
      · refine ra_iconst rfl ?_
        exact ra_ireturn rfl (ra_okB (Or.inl rfl)) ⟨⟨_, (Or.inl rfl), ⟨(fun q => absurd q (by decide)), (x5ro_n6 hz68q (by omega) rfl (fun x hx => x5pb_f6 hRs (WF_a (LD_k hk0 hld).1) (by omega) hPA hx))⟩, rfl⟩, ⟨hF71, hk73, hk74, hk75, hk76, (fun a h15 h16 h17 h18 h19 h20 h21 => ((he70 a h15 h16).trans ((he55 a h15 h16 h17 h18 h19 h20).trans (hov a h15 h16 h17 h18 h19 h20 h21)))), (LD_k hk72 hld), (pt_e (he70 12 (by decide) (by decide)) (he70 17 (by decide) (by decide)) (he70 18 (by decide) (by decide)) (he70 19 (by decide) (by decide)) he57), (by have m_s47 := he58; have m_s67 : ra_g s67 179 17 = ra_g s47 179 17 := (he70 17 (by decide) (by decide)); have k_s67 : ra_g s67 179 20 = ra_g s47 179 20 := (he70 20 (by decide) (by decide)); omega), (((hf69 (187) (by omega)).trans he59).trans k7)⟩⟩
theorem s9_257 {n : Nat} {f : Nat → Int32} {d : Nat}  {σ : ra_V} (hpt : 0 ≤ ra_g σ 179 18 ∧ ra_g σ 179 18 ≤ ra_g σ 179 17 ∧ ra_g σ 179 17 ≤ ra_g σ 179 12 ∧ ra_g σ 179 12 ≤ 500 ∧ 0 ≤ ra_g σ 179 19 ∧ ra_g σ 179 19 ≤ 999) (hld : LD σ) (hB : x4TR σ B bn) (hN : x4RTK B bn σ ta) (hR : x5R6 r σ) : ra_C (g_Gs n f) g_sh 0 (d + 5) 257 [.index (179)] σ (fun r9 s => (∃ z : Int, (z = 0 ∨ z = 1) ∧ ((z = 1 → ra_g s 179 20 = 3 → ra_g σ 179 17 < ra_g s 179 17) ∧ x5RO6 B bn s z (tx_part B bn r ta)) ∧ r9 = .inl (some (ra_I z))) ∧ Fr (179) (189) σ s ∧ s (181) = σ (181) ∧ s (182) = σ (182) ∧ s (183) = σ (183) ∧ s (184) = σ (184) ∧ (∀ a, a ≠ 15 → a ≠ 16 → a ≠ 17 → a ≠ 18 → a ≠ 19 → a ≠ 20 → a ≠ 21 → ra_g s 179 a = ra_g σ 179 a) ∧ LD s ∧ (0 ≤ ra_g s 179 18 ∧ ra_g s 179 18 ≤ ra_g s 179 17 ∧ ra_g s 179 17 ≤ ra_g s 179 12 ∧ ra_g s 179 12 ≤ 500 ∧ 0 ≤ ra_g s 179 19 ∧ ra_g s 179 19 ≤ 999) ∧ ra_g σ 179 17 ≤ ra_g s 179 17 ∧ s (187) = σ (187)) := by
  refine ra_enter (nn := 1) mt_257 rfl (Nat.le_of_ble_eq_true rfl) rfl (fun h => absurd h (by decide +kernel)) ?_
  have hw0 := WF_a hld.1
  unfold WFa at hw0
  have hl5 := hld.2.2.1
  have hR0 := hR
  obtain ⟨⟨⟨q0, q1, q2, q3, q4, q5⟩, q21, -, ⟨q15, q16⟩, qp⟩, qx⟩ := hR0
  have hN0 := hN
  obtain ⟨n1, n2, n3, -, n5, n6, n7⟩ := hN0
  refine ra_load rfl rfl rfl rfl ?_
  refine ra_getR rfl lk_8_7 (Nat.zero_le _) sh_179 rfl ?_
  refine ra_iconst rfl ?_
  refine ra_ialoadJ (j := 5) rfl sh_180 rfl (by decide) rfl (by decide) ?_
  have hr1 : ra_in (ra_g σ (180) 5) := (ra_in_g _ _ _)
  refine ra_bipush rfl (by decide) ?_
  refine ra_icne rfl rfl hr1 (by first | omega | (unfold ra_in at *; omega)) (fun h2 => ?_) (fun h2 => ?_)
  · refine ra_load rfl rfl rfl rfl ?_
    refine ra_cV (s4_250 (by have q := hpt; omega) hB (show ra_g σ 179 17 = ((tx_e B bn ta : Nat) : Int) from n2) (by omega)) rfl (ct_250 rfl lk_8_240 (Or.inl rfl) sh_179 (Nat.le_of_ble_eq_true rfl)) (fun s3 hs3 => ?_)
    obtain ⟨hf4, he5, he6, he7, he8⟩ := hs3
    have hF9 := Fr_tr (lo := 179) (hi := 189) Fr_rf hf4 (by omega)
    have hk10 : s3 (180) = σ (180) := (hf4 (180) (by omega))
    have hk11 : s3 (181) = σ (181) := (hf4 (181) (by omega))
    have hk12 : s3 (182) = σ (182) := (hf4 (182) (by omega))
    have hk13 : s3 (183) = σ (183) := (hf4 (183) (by omega))
    have hk14 : s3 (184) = σ (184) := (hf4 (184) (by omega))
    have hk15 : s3 (187) = σ (187) := (hf4 (187) (by omega))
    refine ra_load rfl rfl rfl rfl ?_
    refine ra_iconst rfl ?_
    refine ra_sipush rfl (by decide) ?_
    refine ra_cQPs (s4_254 (by first | omega | (unfold ra_in at *; omega)) (by first | omega | (unfold ra_in at *; omega)) (by have q := he6; omega) he8 (((he5 15 (by decide) (by decide) (by decide) (by decide))).trans q15)) rfl (ct_254 rfl lk_8_236 (Or.inl rfl) sh_179 (Nat.le_of_ble_eq_true rfl)) (fun z17 s16 hz17 hz17p hs16 => ?_)
    have hz17o := hz17p.1
    have hz17q := hz17p.2
    obtain ⟨hf18, he19⟩ := hs16
    have hF20 := Fr_tr (lo := 179) (hi := 189) hF9 hf18 (by omega)
    have hk21 : s16 (180) = σ (180) := (hf18 (180) (by omega)).trans hk10
    have hk22 : s16 (181) = σ (181) := (hf18 (181) (by omega)).trans hk11
    have hk23 : s16 (182) = σ (182) := (hf18 (182) (by omega)).trans hk12
    have hk24 : s16 (183) = σ (183) := (hf18 (183) (by omega)).trans hk13
    have hk25 : s16 (184) = σ (184) := (hf18 (184) (by omega)).trans hk14
    have hk26 : s16 (187) = σ (187) := (hf18 (187) (by omega)).trans hk15
    refine ra_ifne rfl rfl (ra_in01 hz17) (fun h27 => ?_) (fun h27 => ?_)
    · obtain ⟨-, hr1, hl1, hu1, he1, he1b⟩ := hz17q.resolve_right (fun q => by omega)
      have hv19 : ra_g s16 179 19 = ra_g s3 179 19 := (he19 19 (by decide) (by decide))
      rw [← hv19] at hr1
      have a16 : ra_g s3 179 16 = ra_g σ 179 16 := (he5 16 (by decide) (by decide) (by decide) (by decide))
      have hR2 : x5R6 r s16 := (x5R6_k ((hf18 (180) (by omega)).trans (hf4 (180) (by omega))) ⟨by omega, by omega, ((he19 21 (by decide) (by decide)).trans (he5 21 (by decide) (by decide) (by decide) (by decide)))⟩ hR)
      have hK2 := (x4RTK_k (he19 17 (by decide) (by decide)) (he19 18 (by decide) (by decide)) (he19 19 (by decide) (by decide)) (he19 20 (by decide) (by decide)) he8)
      have hW2 := WFa_k ((hf18 (180) (by omega)).trans (hf4 (180) (by omega))) (WF_a hld.1)
      refine ra_load rfl rfl rfl rfl ?_
      refine ra_load rfl rfl rfl rfl ?_
      refine ra_getI rfl lk_8_201 (Nat.zero_le _) sh_179 rfl ?_
      have hr28 : ra_in (ra_g s16 (179) 19) := (ra_in_g _ _ _)
      refine ra_i2l rfl hr28 ?_
      refine ra_lconst1 rfl ?_
      refine ra_cQPp (sp_211 hr28 (by first | omega | (unfold ra_in at *; omega)) (WF_a (LD_k hk21 hld).1)) rfl (ct_211 rfl lk_8_103 (Or.inl rfl) sh_179 (Nat.le_of_ble_eq_true rfl)) (fun z30 hz30 hz30p => ?_)
      refine ra_ifeq rfl rfl (ra_in01 hz30) (fun h31 => ?_) (fun h31 => ?_)
      · refine ra_load rfl rfl rfl rfl ?_
        refine ra_iconst rfl ?_
        refine ra_cQP (s4_252 (by first | omega | (unfold ra_in at *; omega))) rfl (ct_252 rfl lk_8_233 (Or.inl rfl) sh_179 (Nat.le_of_ble_eq_true rfl)) (fun z33 s32 hz33 hz33p hs32 => ?_)
        obtain ⟨hf34, he35, he36⟩ := hs32
        have hF37 := Fr_tr (lo := 179) (hi := 189) hF20 hf34 (by omega)
        have hk38 : s32 (180) = σ (180) := (hf34 (180) (by omega)).trans hk21
        have hk39 : s32 (181) = σ (181) := (hf34 (181) (by omega)).trans hk22
        have hk40 : s32 (182) = σ (182) := (hf34 (182) (by omega)).trans hk23
        have hk41 : s32 (183) = σ (183) := (hf34 (183) (by omega)).trans hk24
        have hk42 : s32 (184) = σ (184) := (hf34 (184) (by omega)).trans hk25
        have hk43 : s32 (187) = σ (187) := (hf34 (187) (by omega)).trans hk26
        exact ra_ireturn rfl (ra_okB hz33) ⟨⟨_, hz33, ⟨(fun q => absurd q (by omega)), (x5ro_f6 (c := 2) (a := tx_a B bn (tx_e B bn ta)) hz33p (x5pa_n6 hR2 hW2 (by omega) hr1 (by first | exact Or.inl (fun q => absurd (hz30p.mpr q) (by omega)) | exact Or.inr (by rw [ra_gk ((hf18 (180) (by omega)).trans (hf4 (180) (by omega)))]; omega))) (by have q := he36 he1; omega) (by have q := he36 he1; have q9 := hK2.1; omega))⟩, rfl⟩, ⟨hF37, hk39, hk40, hk41, hk42, (fun a h15 h16 h17 h18 h19 h20 h21 => ((he35 a h15 h16).trans ((he19 a h15 h16).trans (he5 a h17 h18 h19 h20)))), (LD_k hk38 hld), (pt_e (he35 12 (by decide) (by decide)) (he35 17 (by decide) (by decide)) (he35 18 (by decide) (by decide)) (he35 19 (by decide) (by decide)) (pt_e (he19 12 (by decide) (by decide)) (he19 17 (by decide) (by decide)) (he19 18 (by decide) (by decide)) (he19 19 (by decide) (by decide)) he6)), (by have m_s3 := he7.1; have m_s16 : ra_g s16 179 17 = ra_g s3 179 17 := (he19 17 (by decide) (by decide)); have k_s16 : ra_g s16 179 20 = ra_g s3 179 20 := (he19 20 (by decide) (by decide)); have m_s32 : ra_g s32 179 17 = ra_g s16 179 17 := (he35 17 (by decide) (by decide)); have k_s32 : ra_g s32 179 20 = ra_g s16 179 20 := (he35 20 (by decide) (by decide)); omega), ((hf34 (187) (by omega)).trans ((hf18 (187) (by omega)).trans (hf4 (187) (by omega))))⟩⟩
      · refine ra_load rfl rfl rfl rfl ?_
        refine ra_getI rfl lk_8_201 (Nat.zero_le _) sh_179 rfl ?_
        have hr44 : ra_in (ra_g s16 (179) 19) := (ra_in_g _ _ _)
        refine ra_load rfl rfl rfl rfl ?_
        refine ra_getR rfl lk_8_7 (Nat.zero_le _) sh_179 rfl ?_
        refine ra_iconst rfl ?_
        refine ra_ialoadJ (j := 3) rfl sh_180 rfl (by decide) rfl (by decide) ?_
        rw [ra_gk hk21]
        have hr45 : ra_in (ra_g σ (180) 3) := (ra_in_g _ _ _)
        refine ra_irem rfl hr44 hr45 (by omega) ?_
        refine ra_ifeq rfl rfl (ra_in_tmod hr44 (by omega)) (fun h46 => ?_) (fun h46 => ?_)
        · exact ra_weak (by repeat' constructor) (l9_257_67 hpt hld hB hN hR s16 hF20 hk21 hk22 hk23 hk24 hk25 (fun a h15 h16 h17 h18 h19 h20 h21 => ((he19 a h15 h16).trans (he5 a h17 h18 h19 h20))) (pt_e (he19 12 (by decide) (by decide)) (he19 17 (by decide) (by decide)) (he19 18 (by decide) (by decide)) (he19 19 (by decide) (by decide)) he6) (by have m_s3 := he7.1; have m_s16 : ra_g s16 179 17 = ra_g s3 179 17 := (he19 17 (by decide) (by decide)); have k_s16 : ra_g s16 179 20 = ra_g s3 179 20 := (he19 20 (by decide) (by decide)); omega) (by first | assumption | omega) hR2 hK2 (x4TR_k ((he19 12 (by decide) (by decide)).trans (he5 12 (by decide) (by decide) (by decide) (by decide))) ((hf18 (187) (by omega)).trans (hf4 (187) (by omega))) hB) ((hf18 (187) (by omega)).trans (hf4 (187) (by omega))) (x5pa_16 hR2 hW2 hr1 (hz30p.mp (by omega)) (by rw [ra_gk ((hf18 (180) (by omega)).trans (hf4 (180) (by omega)))]; omega)))
        · refine ra_load rfl rfl rfl rfl ?_
          refine ra_iconst rfl ?_
          refine ra_cQP (s4_252 (by first | omega | (unfold ra_in at *; omega))) rfl (ct_252 rfl lk_8_233 (Or.inl rfl) sh_179 (Nat.le_of_ble_eq_true rfl)) (fun z184 s183 hz184 hz184p hs183 => ?_)
          obtain ⟨hf185, he186, he187⟩ := hs183
          have hF188 := Fr_tr (lo := 179) (hi := 189) hF20 hf185 (by omega)
          have hk189 : s183 (180) = σ (180) := (hf185 (180) (by omega)).trans hk21
          have hk190 : s183 (181) = σ (181) := (hf185 (181) (by omega)).trans hk22
          have hk191 : s183 (182) = σ (182) := (hf185 (182) (by omega)).trans hk23
          have hk192 : s183 (183) = σ (183) := (hf185 (183) (by omega)).trans hk24
          have hk193 : s183 (184) = σ (184) := (hf185 (184) (by omega)).trans hk25
          have hk194 : s183 (187) = σ (187) := (hf185 (187) (by omega)).trans hk26
          exact ra_ireturn rfl (ra_okB hz184) ⟨⟨_, hz184, ⟨(fun q => absurd q (by omega)), (x5ro_f6 (c := 2) (a := tx_a B bn (tx_e B bn ta)) hz184p (x5pa_n6 hR2 hW2 (by omega) hr1 (by first | exact Or.inl (fun q => absurd (hz30p.mpr q) (by omega)) | exact Or.inr (by rw [ra_gk ((hf18 (180) (by omega)).trans (hf4 (180) (by omega)))]; omega))) (by have q := he187 he1; omega) (by have q := he187 he1; have q9 := hK2.1; omega))⟩, rfl⟩, ⟨hF188, hk190, hk191, hk192, hk193, (fun a h15 h16 h17 h18 h19 h20 h21 => ((he186 a h15 h16).trans ((he19 a h15 h16).trans (he5 a h17 h18 h19 h20)))), (LD_k hk189 hld), (pt_e (he186 12 (by decide) (by decide)) (he186 17 (by decide) (by decide)) (he186 18 (by decide) (by decide)) (he186 19 (by decide) (by decide)) (pt_e (he19 12 (by decide) (by decide)) (he19 17 (by decide) (by decide)) (he19 18 (by decide) (by decide)) (he19 19 (by decide) (by decide)) he6)), (by have m_s3 := he7.1; have m_s16 : ra_g s16 179 17 = ra_g s3 179 17 := (he19 17 (by decide) (by decide)); have k_s16 : ra_g s16 179 20 = ra_g s3 179 20 := (he19 20 (by decide) (by decide)); have m_s183 : ra_g s183 179 17 = ra_g s16 179 17 := (he186 17 (by decide) (by decide)); have k_s183 : ra_g s183 179 20 = ra_g s16 179 20 := (he186 20 (by decide) (by decide)); omega), ((hf185 (187) (by omega)).trans ((hf18 (187) (by omega)).trans (hf4 (187) (by omega))))⟩⟩
    · refine ra_iconst rfl ?_
      exact ra_ireturn rfl (ra_okB (Or.inl rfl)) ⟨⟨_, (Or.inl rfl), ⟨(fun q => absurd q (by decide)), (x5ro_n6 hz17q (by omega) rfl (fun x hx => x5pa_f6 hR (WF_a hld.1) (by omega) hx))⟩, rfl⟩, ⟨hF20, hk22, hk23, hk24, hk25, (fun a h15 h16 h17 h18 h19 h20 h21 => ((he19 a h15 h16).trans (he5 a h17 h18 h19 h20))), (LD_k hk21 hld), (pt_e (he19 12 (by decide) (by decide)) (he19 17 (by decide) (by decide)) (he19 18 (by decide) (by decide)) (he19 19 (by decide) (by decide)) he6), (by have m_s3 := he7.1; have m_s16 : ra_g s16 179 17 = ra_g s3 179 17 := (he19 17 (by decide) (by decide)); have k_s16 : ra_g s16 179 20 = ra_g s3 179 20 := (he19 20 (by decide) (by decide)); omega), ((hf18 (187) (by omega)).trans (hf4 (187) (by omega)))⟩⟩
  · refine ra_load rfl rfl rfl rfl ?_
    refine ra_iconst rfl ?_
    refine ra_cQP (s4_252 (by first | omega | (unfold ra_in at *; omega))) rfl (ct_252 rfl lk_8_233 (Or.inl rfl) sh_179 (Nat.le_of_ble_eq_true rfl)) (fun z196 s195 hz196 hz196p hs195 => ?_)
    obtain ⟨hf197, he198, he199⟩ := hs195
    have hF200 := Fr_tr (lo := 179) (hi := 189) Fr_rf hf197 (by omega)
    have hk201 : s195 (180) = σ (180) := (hf197 (180) (by omega))
    have hk202 : s195 (181) = σ (181) := (hf197 (181) (by omega))
    have hk203 : s195 (182) = σ (182) := (hf197 (182) (by omega))
    have hk204 : s195 (183) = σ (183) := (hf197 (183) (by omega))
    have hk205 : s195 (184) = σ (184) := (hf197 (184) (by omega))
    have hk206 : s195 (187) = σ (187) := (hf197 (187) (by omega))
    exact ra_ireturn rfl (ra_okB hz196) ⟨⟨_, hz196, ⟨(fun q => absurd q (by omega)), (x5ro_f6 (c := 5) (a := ta) hz196p (x4part_0 (by omega)) (by have q := he199 q15; omega) (by have q := he199 q15; omega))⟩, rfl⟩, ⟨hF200, hk202, hk203, hk204, hk205, (fun a h15 h16 h17 h18 h19 h20 h21 => (he198 a h15 h16)), (LD_k hk201 hld), (pt_e (he198 12 (by decide) (by decide)) (he198 17 (by decide) (by decide)) (he198 18 (by decide) (by decide)) (he198 19 (by decide) (by decide)) hpt), (by have m_s195 : ra_g s195 179 17 = ra_g σ 179 17 := (he198 17 (by decide) (by decide)); have k_s195 : ra_g s195 179 20 = ra_g σ 179 20 := (he198 20 (by decide) (by decide)); omega), (hf197 (187) (by omega))⟩⟩
end
