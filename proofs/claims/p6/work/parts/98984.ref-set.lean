/-! T4: what the reference's methods that read a text do (printed by wip/gen/r4.py) -/
section
variable {B : Nat → Int} {bn ps ta ti : Nat} {r : Nat → Int}
theorem s4_255 {n : Nat} {f : Nat → Int32} {d : Nat} {x0 : Int} {x1 : Int} {x2 : Int} {x3 : Int} {σ : ra_V} (hx0 : ra_in x0) (hx1 : ra_in x1) (hx2 : ra_in x2) (hx3 : ra_in x3) (hpt : 0 ≤ ra_g σ 179 18 ∧ ra_g σ 179 18 ≤ ra_g σ 179 17 ∧ ra_g σ 179 17 ≤ ra_g σ 179 12 ∧ ra_g σ 179 12 ≤ 500 ∧ 0 ≤ ra_g σ 179 19 ∧ ra_g σ 179 19 ≤ 999) (hld : LD σ) (hst : (x0 = 1 ∧ x1 = 1 ∧ x2 = 0 ∧ x3 = 31) ∨ (x0 = 2 ∧ x1 = 2 ∧ x2 = 0 ∧ x3 = 31) ∨ (x0 = 3 ∧ x1 = 4 ∧ x2 = 1 ∧ x3 = 32) ∨ (x0 = 4 ∧ x1 = 8 ∧ x2 = 1 ∧ x3 = 16)) (hB : x4TR σ B bn) (hN : x4RTK B bn σ ta) (hR : x4RR r σ) : ra_C (g_Gs n f) g_sh 0 (d + 4) 255 [.index (179), ra_I x0, ra_I x1, ra_I x2, ra_I x3] σ (fun r9 s => (∃ z : Int, (z = 0 ∨ z = 1) ∧ ((z = 1 → ra_g s 179 20 = 3 → ra_g σ 179 17 < ra_g s 179 17) ∧ x4ROC B bn s z (tx_set B bn r ta x0.toNat (100 + x0.toNat) (decide (x1 < 8)) x2 x3)) ∧ r9 = .inl (some (ra_I z))) ∧ Fr (179) (189) σ s ∧ s (181) = σ (181) ∧ s (182) = σ (182) ∧ s (183) = σ (183) ∧ s (184) = σ (184) ∧ (∀ a, a ≠ 15 → a ≠ 16 → a ≠ 17 → a ≠ 18 → a ≠ 19 → a ≠ 20 → a ≠ 21 → ra_g s 179 a = ra_g σ 179 a) ∧ LD s ∧ (0 ≤ ra_g s 179 18 ∧ ra_g s 179 18 ≤ ra_g s 179 17 ∧ ra_g s 179 17 ≤ ra_g s 179 12 ∧ ra_g s 179 12 ≤ 500 ∧ 0 ≤ ra_g s 179 19 ∧ ra_g s 179 19 ≤ 999) ∧ ra_g σ 179 17 ≤ ra_g s 179 17 ∧ s (187) = σ (187)) := by
  refine ra_enter (nn := 0) mt_255 rfl (Nat.le_of_ble_eq_true rfl) rfl (fun h => absurd h (by decide +kernel)) ?_
  have hw0 := WF_a hld.1
  unfold WFa at hw0
  have hl5 := hld.2.2.1
  have hR0 := hR
  obtain ⟨⟨q0, q1, q2, q3, q4, q5⟩, q21, -, ⟨q15, q16⟩, qp⟩ := hR0
  have hN0 := hN
  obtain ⟨n1, n2, n3, -, n5, n6, n7⟩ := hN0
  refine ra_load rfl rfl rfl rfl ?_
  refine ra_bipush rfl (by decide) ?_
  refine ra_icge rfl rfl hx1 (by first | omega | (unfold ra_in at *; omega)) (fun h1 => ?_) (fun h1 => ?_)
  · refine ra_load rfl rfl rfl rfl ?_
    refine ra_getI rfl lk_8_243 (Nat.zero_le _) sh_179 rfl ?_
    have hr2 : ra_in (ra_g σ (179) 21) := (ra_in_g _ _ _)
    refine ra_load rfl rfl rfl rfl ?_
    refine ra_iand rfl ?_
    refine ra_ifeq rfl rfl (ra_in_op _ _ _) (fun h3 => ?_) (fun h3 => ?_)
    · refine ra_load rfl rfl rfl rfl ?_
      refine ra_dup rfl rfl ?_
      refine ra_getI rfl lk_8_243 (Nat.zero_le _) sh_179 rfl ?_
      have hr4 : ra_in (ra_g σ (179) 21) := (ra_in_g _ _ _)
      refine ra_load rfl rfl rfl rfl ?_
      refine ra_ior rfl ?_
      refine ra_putI rfl lk_8_243 (Nat.zero_le _) sh_179 rfl rfl ?_
      refine ra_newU (ra_in_op _ _ _) (fun s5 hs5 hp6 hp6o => ?_)
      have hp6_99 := hp6o 99 (by decide)
      have hF7 := Fr_tr (lo := 179) (hi := 189) Fr_rf hs5 (by omega)
      have hk8 : s5 (180) = σ (180) := (hs5 (180) (by omega))
      have hk9 : s5 (181) = σ (181) := (hs5 (181) (by omega))
      have hk10 : s5 (182) = σ (182) := (hs5 (182) (by omega))
      have hk11 : s5 (183) = σ (183) := (hs5 (183) (by omega))
      have hk12 : s5 (184) = σ (184) := (hs5 (184) (by omega))
      have hk13 : s5 (187) = σ (187) := (hs5 (187) (by omega))
      refine ra_load rfl rfl rfl rfl ?_
      refine ra_cV (s4_249 (by have q := (pt_e (hp6o 12 (by decide)) (hp6o 17 (by decide)) (hp6o 18 (by decide)) (hp6o 19 (by decide)) hpt); omega) (x4TR_k (hp6o 12 (by decide)) (hs5 (187) (by omega)) hB) (show ra_g s5 179 17 = ((tx_e B bn ta : Nat) : Int) from ((hp6o 17 (by decide))).trans hN.2.1) (by omega)) rfl (ct_249 rfl lk_8_240 (Or.inl rfl) sh_179 (Nat.le_of_ble_eq_true rfl)) (fun s14 hs14 => ?_)
      obtain ⟨hf15, he16, he17, he18, he19⟩ := hs14
      have hF20 := Fr_tr (lo := 179) (hi := 189) hF7 hf15 (by omega)
      have hk21 : s14 (180) = σ (180) := (hf15 (180) (by omega)).trans hk8
      have hk22 : s14 (181) = σ (181) := (hf15 (181) (by omega)).trans hk9
      have hk23 : s14 (182) = σ (182) := (hf15 (182) (by omega)).trans hk10
      have hk24 : s14 (183) = σ (183) := (hf15 (183) (by omega)).trans hk11
      have hk25 : s14 (184) = σ (184) := (hf15 (184) (by omega)).trans hk12
      have hk26 : s14 (187) = σ (187) := (hf15 (187) (by omega)).trans hk13
      refine ra_load rfl rfl rfl rfl ?_
      refine ra_iconst rfl ?_
      refine ra_load rfl rfl rfl rfl ?_
      refine ra_load rfl rfl rfl rfl ?_
      refine ra_cQPs (s4_254 (by first | omega | (unfold ra_in at *; omega)) hx2 hx3 he17 (by first | assumption | rfl | omega) (x4TR_k ((he16 12 (by decide) (by decide) (by decide) (by decide)).trans (hp6o 12 (by decide))) ((hf15 (187) (by omega)).trans (hs5 (187) (by omega))) hB) he19 ((((he16 15 (by decide) (by decide) (by decide) (by decide)).trans (hp6o 15 (by decide)))).trans q15)) rfl (ct_254 rfl lk_8_246 (Or.inl rfl) sh_179 (Nat.le_of_ble_eq_true rfl)) (fun z28 s27 hz28 hz28p hs27 => ?_)
      have hz28o := hz28p.1
      have hz28q := hz28p.2
      obtain ⟨hf29, hc30, hc31, hc32, hc33, hc34, he35, he36, he37, he38, he39⟩ := hs27
      have hF40 := Fr_tr (lo := 179) (hi := 189) hF20 hf29 (by omega)
      have hk41 : s27 (180) = σ (180) := hc30.trans hk21
      have hk42 : s27 (181) = σ (181) := hc31.trans hk22
      have hk43 : s27 (182) = σ (182) := hc32.trans hk23
      have hk44 : s27 (183) = σ (183) := hc33.trans hk24
      have hk45 : s27 (184) = σ (184) := hc34.trans hk25
      refine ra_ifne rfl rfl (ra_in01 hz28) (fun h46 => ?_) (fun h46 => ?_)
      · rw [toN0] at hz28q
        obtain ⟨-, hr1, hK1, hl1, hu1, he1, he1b⟩ := hz28q.resolve_right (fun q => by omega)
        have hKa := he19
        have ht := hz28o (by omega)
        rw [toN0] at ht
        have hld1 := (LD_k hc30 (LD_k (hf15 180 (by omega)) (LD_k (hs5 180 (by omega)) hld)))
        have h51 : ra_g s27 180 5 = ra_g σ 180 5 := ra_gk hk41
        refine ra_load rfl rfl rfl rfl ?_
        refine ra_getR rfl lk_8_7 (Nat.zero_le _) sh_179 rfl ?_
        refine ra_load rfl rfl rfl rfl ?_
        refine ra_load rfl rfl rfl rfl ?_
        refine ra_getR rfl lk_8_38 (Nat.zero_le _) sh_179 rfl ?_
        refine ra_iconst rfl ?_
        refine ra_ialoadJ (j := 0) rfl sh_188 rfl (by decide) rfl (by decide) ?_
        have hr47 : ra_in (ra_g s27 (188) 0) := (ra_in_g _ _ _)
        refine ra_iastore rfl sh_180 rfl (by decide) (by first | omega | (unfold ra_in at *; omega)) (by first | omega | (unfold ra_in at *; omega)) ?_
        refine ra_newR hr47 (fun s48 hs48 hs48v hs48o => ?_)
        have hF49 := Fr_tr (lo := 179) (hi := 189) hF40 hs48 (by omega)
        have hk50 : s48 (181) = σ (181) := (hs48 (181) (by omega)).trans hk42
        have hk51 : s48 (182) = σ (182) := (hs48 (182) (by omega)).trans hk43
        have hk52 : s48 (183) = σ (183) := (hs48 (183) (by omega)).trans hk44
        have hk53 : s48 (184) = σ (184) := (hs48 (184) (by omega)).trans hk45
        refine ra_iconst rfl ?_
        exact ra_ireturn rfl (ra_okB (Or.inr rfl)) ⟨⟨_, (Or.inr rfl), ⟨(fun _ q => by have m_s5 : ra_g s5 179 17 = ra_g σ 179 17 := (hp6o 17 (by decide)); have k_s5 : ra_g s5 179 20 = ra_g σ 179 20 := (hp6o 20 (by decide)); have m_s14 := he18.1; have m_s27 := he38; have m_s48 : ra_g s48 179 17 = ra_g s27 179 17 := (ra_gk (hs48 179 (by omega))); have k_s48 : ra_g s48 179 20 = ra_g s27 179 20 := (ra_gk (hs48 179 (by omega))); have m_a := hz28o (by omega); omega), (x4ro_y rfl (x4set_y (fun q => by have q9 := of_decide_eq_true q.1; have q8 := q.2; omega) (by have q9 := ((x4rs_h hst hR).2.1 (by omega)).1; omega) hr1) (x4RR_set hst hR ((x4rs_h hst hR).2.1 (by omega)).1 ((((ra_gk (hs48 179 (by omega))).trans ((he35 21 (by decide) (by decide) (by decide) (by decide) (by decide) (by decide)).trans (he16 21 (by decide) (by decide) (by decide) (by decide))))).trans (hp6.trans ((x4rs_h hst hR).2.1 (by omega)).2)) ⟨by have a : ra_g s48 179 15 = ra_g s27 179 15 := (ra_gk (hs48 179 (by omega))); omega, by have a : ra_g s48 179 16 = ra_g s27 179 16 := (ra_gk (hs48 179 (by omega))); have b : ra_g s14 179 16 = ra_g σ 179 16 := ((he16 16 (by decide) (by decide) (by decide) (by decide)).trans (hp6o 16 (by decide))); omega⟩ hs48v (fun j hj => (hs48o j hj).trans (ra_gk (hc30.trans ((hf15 (180) (by omega)).trans (hs5 (180) (by omega))))))) (x4RTK_k (ra_gk (hs48 179 (by omega))) (ra_gk (hs48 179 (by omega))) (ra_gk (hs48 179 (by omega))) (ra_gk (hs48 179 (by omega))) hK1) (x4RTK_n hKa))⟩, rfl⟩, ⟨hF49, hk50, hk51, hk52, hk53, (fun a h15 h16 h17 h18 h19 h20 h21 => ((ra_gk (hs48 179 (by omega))).trans ((he35 a h15 h16 h17 h18 h19 h20).trans ((he16 a h17 h18 h19 h20).trans (hp6o a h21))))), (LD_set (j := x0.toNat) hld1 (by omega) hs48o (fun q => by have t := hs48v; omega) (fun q => by have t := hs48v; omega) (fun q => by have t := hs48v; omega) (fun q => by have t := hs48v; omega) (by omega)), (pt_e (ra_gk (hs48 179 (by omega))) (ra_gk (hs48 179 (by omega))) (ra_gk (hs48 179 (by omega))) (ra_gk (hs48 179 (by omega))) he37), (by have m_s5 : ra_g s5 179 17 = ra_g σ 179 17 := (hp6o 17 (by decide)); have k_s5 : ra_g s5 179 20 = ra_g σ 179 20 := (hp6o 20 (by decide)); have m_s14 := he18.1; have m_s27 := he38; have m_s48 : ra_g s48 179 17 = ra_g s27 179 17 := (ra_gk (hs48 179 (by omega))); have k_s48 : ra_g s48 179 20 = ra_g s27 179 20 := (ra_gk (hs48 179 (by omega))); omega), ((hs48 (187) (by omega)).trans (he39.trans ((hf15 (187) (by omega)).trans (hs5 (187) (by omega)))))⟩⟩
      · refine ra_iconst rfl ?_
        exact ra_ireturn rfl (ra_okB (Or.inl rfl)) ⟨⟨_, (Or.inl rfl), ⟨(fun q => absurd q (by decide)), (x4ro_t hz28q (by omega) rfl (fun x hx => x4set_n (fun q => by have q9 := of_decide_eq_true q.1; have q8 := q.2; omega) (by have q9 := ((x4rs_h hst hR).2.1 (by omega)).1; omega) hx))⟩, rfl⟩, ⟨hF40, hk42, hk43, hk44, hk45, (fun a h15 h16 h17 h18 h19 h20 h21 => ((he35 a h15 h16 h17 h18 h19 h20).trans ((he16 a h17 h18 h19 h20).trans (hp6o a h21)))), (LD_k hc30 (LD_k (hf15 180 (by omega)) (LD_k (hs5 180 (by omega)) hld))), he37, (by have m_s5 : ra_g s5 179 17 = ra_g σ 179 17 := (hp6o 17 (by decide)); have k_s5 : ra_g s5 179 20 = ra_g σ 179 20 := (hp6o 20 (by decide)); have m_s14 := he18.1; have m_s27 := he38; omega), (he39.trans ((hf15 (187) (by omega)).trans (hs5 (187) (by omega))))⟩⟩
    · refine ra_load rfl rfl rfl rfl ?_
      refine ra_iconst rfl ?_
      refine ra_cQP (s4_251 (by first | omega | (unfold ra_in at *; omega))) rfl (ct_251 rfl lk_8_233 (Or.inl rfl) sh_179 (Nat.le_of_ble_eq_true rfl)) (fun z55 s54 hz55 hz55p hs54 => ?_)
      obtain ⟨hf56, he57, he58⟩ := hs54
      have hF59 := Fr_tr (lo := 179) (hi := 189) Fr_rf hf56 (by omega)
      have hk60 : s54 (180) = σ (180) := (hf56 (180) (by omega))
      have hk61 : s54 (181) = σ (181) := (hf56 (181) (by omega))
      have hk62 : s54 (182) = σ (182) := (hf56 (182) (by omega))
      have hk63 : s54 (183) = σ (183) := (hf56 (183) (by omega))
      have hk64 : s54 (184) = σ (184) := (hf56 (184) (by omega))
      have hk65 : s54 (187) = σ (187) := (hf56 (187) (by omega))
      exact ra_ireturn rfl (ra_okB hz55) ⟨⟨_, hz55, ⟨(fun q => absurd q (by omega)), (by first | exact x4ro_f (c := 1) (a := ta) hz55p (x4set_e (decide_eq_true (by omega)) (by omega)) (by have q := he58 q15; omega) (by have q := he58 q15; omega) | exact x4ro_f (c := 3) (a := ta) hz55p (x4set_t (fun q => by have q9 := of_decide_eq_true q.1; have q8 := q.2; omega) ((x4rs_h hst hR).1 (by omega))) (by have q := he58 q15; omega) (by have q := he58 q15; omega))⟩, rfl⟩, ⟨hF59, hk61, hk62, hk63, hk64, (fun a h15 h16 h17 h18 h19 h20 h21 => (he57 a h15 h16)), (LD_k (hf56 180 (by omega)) hld), (pt_e (he57 12 (by decide) (by decide)) (he57 17 (by decide) (by decide)) (he57 18 (by decide) (by decide)) (he57 19 (by decide) (by decide)) hpt), (by have m_s54 : ra_g s54 179 17 = ra_g σ 179 17 := (he57 17 (by decide) (by decide)); have k_s54 : ra_g s54 179 20 = ra_g σ 179 20 := (he57 20 (by decide) (by decide)); omega), (hf56 (187) (by omega))⟩⟩
  · refine ra_load rfl rfl rfl rfl ?_
    refine ra_getR rfl lk_8_7 (Nat.zero_le _) sh_179 rfl ?_
    refine ra_iconst rfl ?_
    refine ra_ialoadJ (j := 5) rfl sh_180 rfl (by decide) rfl (by decide) ?_
    have hr66 : ra_in (ra_g σ (180) 5) := (ra_in_g _ _ _)
    refine ra_ifle rfl rfl hr66 (fun h67 => ?_) (fun h67 => ?_)
    · refine ra_load rfl rfl rfl rfl ?_
      refine ra_getI rfl lk_8_243 (Nat.zero_le _) sh_179 rfl ?_
      have hr68 : ra_in (ra_g σ (179) 21) := (ra_in_g _ _ _)
      refine ra_load rfl rfl rfl rfl ?_
      refine ra_iand rfl ?_
      refine ra_ifeq rfl rfl (ra_in_op _ _ _) (fun h69 => ?_) (fun h69 => ?_)
      · refine ra_load rfl rfl rfl rfl ?_
        refine ra_dup rfl rfl ?_
        refine ra_getI rfl lk_8_243 (Nat.zero_le _) sh_179 rfl ?_
        have hr70 : ra_in (ra_g σ (179) 21) := (ra_in_g _ _ _)
        refine ra_load rfl rfl rfl rfl ?_
        refine ra_ior rfl ?_
        refine ra_putI rfl lk_8_243 (Nat.zero_le _) sh_179 rfl rfl ?_
        refine ra_newU (ra_in_op _ _ _) (fun s71 hs71 hp72 hp72o => ?_)
        have hp72_99 := hp72o 99 (by decide)
        have hF73 := Fr_tr (lo := 179) (hi := 189) Fr_rf hs71 (by omega)
        have hk74 : s71 (180) = σ (180) := (hs71 (180) (by omega))
        have hk75 : s71 (181) = σ (181) := (hs71 (181) (by omega))
        have hk76 : s71 (182) = σ (182) := (hs71 (182) (by omega))
        have hk77 : s71 (183) = σ (183) := (hs71 (183) (by omega))
        have hk78 : s71 (184) = σ (184) := (hs71 (184) (by omega))
        have hk79 : s71 (187) = σ (187) := (hs71 (187) (by omega))
        refine ra_load rfl rfl rfl rfl ?_
        refine ra_cV (s4_249 (by have q := (pt_e (hp72o 12 (by decide)) (hp72o 17 (by decide)) (hp72o 18 (by decide)) (hp72o 19 (by decide)) hpt); omega) (x4TR_k (hp72o 12 (by decide)) (hs71 (187) (by omega)) hB) (show ra_g s71 179 17 = ((tx_e B bn ta : Nat) : Int) from ((hp72o 17 (by decide))).trans hN.2.1) (by omega)) rfl (ct_249 rfl lk_8_240 (Or.inl rfl) sh_179 (Nat.le_of_ble_eq_true rfl)) (fun s80 hs80 => ?_)
        obtain ⟨hf81, he82, he83, he84, he85⟩ := hs80
        have hF86 := Fr_tr (lo := 179) (hi := 189) hF73 hf81 (by omega)
        have hk87 : s80 (180) = σ (180) := (hf81 (180) (by omega)).trans hk74
        have hk88 : s80 (181) = σ (181) := (hf81 (181) (by omega)).trans hk75
        have hk89 : s80 (182) = σ (182) := (hf81 (182) (by omega)).trans hk76
        have hk90 : s80 (183) = σ (183) := (hf81 (183) (by omega)).trans hk77
        have hk91 : s80 (184) = σ (184) := (hf81 (184) (by omega)).trans hk78
        have hk92 : s80 (187) = σ (187) := (hf81 (187) (by omega)).trans hk79
        refine ra_load rfl rfl rfl rfl ?_
        refine ra_iconst rfl ?_
        refine ra_load rfl rfl rfl rfl ?_
        refine ra_load rfl rfl rfl rfl ?_
        refine ra_cQPs (s4_254 (by first | omega | (unfold ra_in at *; omega)) hx2 hx3 he83 (by first | assumption | rfl | omega) (x4TR_k ((he82 12 (by decide) (by decide) (by decide) (by decide)).trans (hp72o 12 (by decide))) ((hf81 (187) (by omega)).trans (hs71 (187) (by omega))) hB) he85 ((((he82 15 (by decide) (by decide) (by decide) (by decide)).trans (hp72o 15 (by decide)))).trans q15)) rfl (ct_254 rfl lk_8_246 (Or.inl rfl) sh_179 (Nat.le_of_ble_eq_true rfl)) (fun z94 s93 hz94 hz94p hs93 => ?_)
        have hz94o := hz94p.1
        have hz94q := hz94p.2
        obtain ⟨hf95, hc96, hc97, hc98, hc99, hc100, he101, he102, he103, he104, he105⟩ := hs93
        have hF106 := Fr_tr (lo := 179) (hi := 189) hF86 hf95 (by omega)
        have hk107 : s93 (180) = σ (180) := hc96.trans hk87
        have hk108 : s93 (181) = σ (181) := hc97.trans hk88
        have hk109 : s93 (182) = σ (182) := hc98.trans hk89
        have hk110 : s93 (183) = σ (183) := hc99.trans hk90
        have hk111 : s93 (184) = σ (184) := hc100.trans hk91
        refine ra_ifne rfl rfl (ra_in01 hz94) (fun h112 => ?_) (fun h112 => ?_)
        · rw [toN0] at hz94q
          obtain ⟨-, hr1, hK1, hl1, hu1, he1, he1b⟩ := hz94q.resolve_right (fun q => by omega)
          have hKa := he85
          have ht := hz94o (by omega)
          rw [toN0] at ht
          have hld1 := (LD_k hc96 (LD_k (hf81 180 (by omega)) (LD_k (hs71 180 (by omega)) hld)))
          have h51 : ra_g s93 180 5 = ra_g σ 180 5 := ra_gk hk107
          refine ra_load rfl rfl rfl rfl ?_
          refine ra_getR rfl lk_8_7 (Nat.zero_le _) sh_179 rfl ?_
          refine ra_load rfl rfl rfl rfl ?_
          refine ra_load rfl rfl rfl rfl ?_
          refine ra_getR rfl lk_8_38 (Nat.zero_le _) sh_179 rfl ?_
          refine ra_iconst rfl ?_
          refine ra_ialoadJ (j := 0) rfl sh_188 rfl (by decide) rfl (by decide) ?_
          have hr113 : ra_in (ra_g s93 (188) 0) := (ra_in_g _ _ _)
          refine ra_iastore rfl sh_180 rfl (by decide) (by first | omega | (unfold ra_in at *; omega)) (by first | omega | (unfold ra_in at *; omega)) ?_
          refine ra_newR hr113 (fun s114 hs114 hs114v hs114o => ?_)
          have hF115 := Fr_tr (lo := 179) (hi := 189) hF106 hs114 (by omega)
          have hk116 : s114 (181) = σ (181) := (hs114 (181) (by omega)).trans hk108
          have hk117 : s114 (182) = σ (182) := (hs114 (182) (by omega)).trans hk109
          have hk118 : s114 (183) = σ (183) := (hs114 (183) (by omega)).trans hk110
          have hk119 : s114 (184) = σ (184) := (hs114 (184) (by omega)).trans hk111
          refine ra_iconst rfl ?_
          exact ra_ireturn rfl (ra_okB (Or.inr rfl)) ⟨⟨_, (Or.inr rfl), ⟨(fun _ q => by have m_s71 : ra_g s71 179 17 = ra_g σ 179 17 := (hp72o 17 (by decide)); have k_s71 : ra_g s71 179 20 = ra_g σ 179 20 := (hp72o 20 (by decide)); have m_s80 := he84.1; have m_s93 := he104; have m_s114 : ra_g s114 179 17 = ra_g s93 179 17 := (ra_gk (hs114 179 (by omega))); have k_s114 : ra_g s114 179 20 = ra_g s93 179 20 := (ra_gk (hs114 179 (by omega))); have m_a := hz94o (by omega); omega), (x4ro_y rfl (x4set_y (fun q => by have q9 := of_decide_eq_true q.1; have q8 := q.2; omega) (by have q9 := ((x4rs_h hst hR).2.1 (by omega)).1; omega) hr1) (x4RR_set hst hR ((x4rs_h hst hR).2.1 (by omega)).1 ((((ra_gk (hs114 179 (by omega))).trans ((he101 21 (by decide) (by decide) (by decide) (by decide) (by decide) (by decide)).trans (he82 21 (by decide) (by decide) (by decide) (by decide))))).trans (hp72.trans ((x4rs_h hst hR).2.1 (by omega)).2)) ⟨by have a : ra_g s114 179 15 = ra_g s93 179 15 := (ra_gk (hs114 179 (by omega))); omega, by have a : ra_g s114 179 16 = ra_g s93 179 16 := (ra_gk (hs114 179 (by omega))); have b : ra_g s80 179 16 = ra_g σ 179 16 := ((he82 16 (by decide) (by decide) (by decide) (by decide)).trans (hp72o 16 (by decide))); omega⟩ hs114v (fun j hj => (hs114o j hj).trans (ra_gk (hc96.trans ((hf81 (180) (by omega)).trans (hs71 (180) (by omega))))))) (x4RTK_k (ra_gk (hs114 179 (by omega))) (ra_gk (hs114 179 (by omega))) (ra_gk (hs114 179 (by omega))) (ra_gk (hs114 179 (by omega))) hK1) (x4RTK_n hKa))⟩, rfl⟩, ⟨hF115, hk116, hk117, hk118, hk119, (fun a h15 h16 h17 h18 h19 h20 h21 => ((ra_gk (hs114 179 (by omega))).trans ((he101 a h15 h16 h17 h18 h19 h20).trans ((he82 a h17 h18 h19 h20).trans (hp72o a h21))))), (LD_set (j := x0.toNat) hld1 (by omega) hs114o (fun q => by have t := hs114v; omega) (fun q => by have t := hs114v; omega) (fun q => by have t := hs114v; omega) (fun q => by have t := hs114v; omega) (by omega)), (pt_e (ra_gk (hs114 179 (by omega))) (ra_gk (hs114 179 (by omega))) (ra_gk (hs114 179 (by omega))) (ra_gk (hs114 179 (by omega))) he103), (by have m_s71 : ra_g s71 179 17 = ra_g σ 179 17 := (hp72o 17 (by decide)); have k_s71 : ra_g s71 179 20 = ra_g σ 179 20 := (hp72o 20 (by decide)); have m_s80 := he84.1; have m_s93 := he104; have m_s114 : ra_g s114 179 17 = ra_g s93 179 17 := (ra_gk (hs114 179 (by omega))); have k_s114 : ra_g s114 179 20 = ra_g s93 179 20 := (ra_gk (hs114 179 (by omega))); omega), ((hs114 (187) (by omega)).trans (he105.trans ((hf81 (187) (by omega)).trans (hs71 (187) (by omega)))))⟩⟩
        · refine ra_iconst rfl ?_
          exact ra_ireturn rfl (ra_okB (Or.inl rfl)) ⟨⟨_, (Or.inl rfl), ⟨(fun q => absurd q (by decide)), (x4ro_t hz94q (by omega) rfl (fun x hx => x4set_n (fun q => by have q9 := of_decide_eq_true q.1; have q8 := q.2; omega) (by have q9 := ((x4rs_h hst hR).2.1 (by omega)).1; omega) hx))⟩, rfl⟩, ⟨hF106, hk108, hk109, hk110, hk111, (fun a h15 h16 h17 h18 h19 h20 h21 => ((he101 a h15 h16 h17 h18 h19 h20).trans ((he82 a h17 h18 h19 h20).trans (hp72o a h21)))), (LD_k hc96 (LD_k (hf81 180 (by omega)) (LD_k (hs71 180 (by omega)) hld))), he103, (by have m_s71 : ra_g s71 179 17 = ra_g σ 179 17 := (hp72o 17 (by decide)); have k_s71 : ra_g s71 179 20 = ra_g σ 179 20 := (hp72o 20 (by decide)); have m_s80 := he84.1; have m_s93 := he104; omega), (he105.trans ((hf81 (187) (by omega)).trans (hs71 (187) (by omega))))⟩⟩
      · refine ra_load rfl rfl rfl rfl ?_
        refine ra_iconst rfl ?_
        refine ra_cQP (s4_251 (by first | omega | (unfold ra_in at *; omega))) rfl (ct_251 rfl lk_8_233 (Or.inl rfl) sh_179 (Nat.le_of_ble_eq_true rfl)) (fun z121 s120 hz121 hz121p hs120 => ?_)
        obtain ⟨hf122, he123, he124⟩ := hs120
        have hF125 := Fr_tr (lo := 179) (hi := 189) Fr_rf hf122 (by omega)
        have hk126 : s120 (180) = σ (180) := (hf122 (180) (by omega))
        have hk127 : s120 (181) = σ (181) := (hf122 (181) (by omega))
        have hk128 : s120 (182) = σ (182) := (hf122 (182) (by omega))
        have hk129 : s120 (183) = σ (183) := (hf122 (183) (by omega))
        have hk130 : s120 (184) = σ (184) := (hf122 (184) (by omega))
        have hk131 : s120 (187) = σ (187) := (hf122 (187) (by omega))
        exact ra_ireturn rfl (ra_okB hz121) ⟨⟨_, hz121, ⟨(fun q => absurd q (by omega)), (by first | exact x4ro_f (c := 1) (a := ta) hz121p (x4set_e (decide_eq_true (by omega)) (by omega)) (by have q := he124 q15; omega) (by have q := he124 q15; omega) | exact x4ro_f (c := 3) (a := ta) hz121p (x4set_t (fun q => by have q9 := of_decide_eq_true q.1; have q8 := q.2; omega) ((x4rs_h hst hR).1 (by omega))) (by have q := he124 q15; omega) (by have q := he124 q15; omega))⟩, rfl⟩, ⟨hF125, hk127, hk128, hk129, hk130, (fun a h15 h16 h17 h18 h19 h20 h21 => (he123 a h15 h16)), (LD_k (hf122 180 (by omega)) hld), (pt_e (he123 12 (by decide) (by decide)) (he123 17 (by decide) (by decide)) (he123 18 (by decide) (by decide)) (he123 19 (by decide) (by decide)) hpt), (by have m_s120 : ra_g s120 179 17 = ra_g σ 179 17 := (he123 17 (by decide) (by decide)); have k_s120 : ra_g s120 179 20 = ra_g σ 179 20 := (he123 20 (by decide) (by decide)); omega), (hf122 (187) (by omega))⟩⟩
    · refine ra_load rfl rfl rfl rfl ?_
      refine ra_iconst rfl ?_
      refine ra_cQP (s4_251 (by first | omega | (unfold ra_in at *; omega))) rfl (ct_251 rfl lk_8_233 (Or.inl rfl) sh_179 (Nat.le_of_ble_eq_true rfl)) (fun z133 s132 hz133 hz133p hs132 => ?_)
      obtain ⟨hf134, he135, he136⟩ := hs132
      have hF137 := Fr_tr (lo := 179) (hi := 189) Fr_rf hf134 (by omega)
      have hk138 : s132 (180) = σ (180) := (hf134 (180) (by omega))
      have hk139 : s132 (181) = σ (181) := (hf134 (181) (by omega))
      have hk140 : s132 (182) = σ (182) := (hf134 (182) (by omega))
      have hk141 : s132 (183) = σ (183) := (hf134 (183) (by omega))
      have hk142 : s132 (184) = σ (184) := (hf134 (184) (by omega))
      have hk143 : s132 (187) = σ (187) := (hf134 (187) (by omega))
      exact ra_ireturn rfl (ra_okB hz133) ⟨⟨_, hz133, ⟨(fun q => absurd q (by omega)), (by first | exact x4ro_f (c := 1) (a := ta) hz133p (x4set_e (decide_eq_true (by omega)) (by omega)) (by have q := he136 q15; omega) (by have q := he136 q15; omega) | exact x4ro_f (c := 3) (a := ta) hz133p (x4set_t (fun q => by have q9 := of_decide_eq_true q.1; have q8 := q.2; omega) ((x4rs_h hst hR).1 (by omega))) (by have q := he136 q15; omega) (by have q := he136 q15; omega))⟩, rfl⟩, ⟨hF137, hk139, hk140, hk141, hk142, (fun a h15 h16 h17 h18 h19 h20 h21 => (he135 a h15 h16)), (LD_k (hf134 180 (by omega)) hld), (pt_e (he135 12 (by decide) (by decide)) (he135 17 (by decide) (by decide)) (he135 18 (by decide) (by decide)) (he135 19 (by decide) (by decide)) hpt), (by have m_s132 : ra_g s132 179 17 = ra_g σ 179 17 := (he135 17 (by decide) (by decide)); have k_s132 : ra_g s132 179 20 = ra_g σ 179 20 := (he135 20 (by decide) (by decide)); omega), (hf134 (187) (by omega))⟩⟩
theorem s4_257 {n : Nat} {f : Nat → Int32} {d : Nat}  {σ : ra_V} (hpt : 0 ≤ ra_g σ 179 18 ∧ ra_g σ 179 18 ≤ ra_g σ 179 17 ∧ ra_g σ 179 17 ≤ ra_g σ 179 12 ∧ ra_g σ 179 12 ≤ 500 ∧ 0 ≤ ra_g σ 179 19 ∧ ra_g σ 179 19 ≤ 999) (hld : LD σ) (hB : x4TR σ B bn) (hN : x4RTK B bn σ ta) (hR : x4RR r σ) : ra_C (g_Gs n f) g_sh 0 (d + 3) 257 [.index (179)] σ (fun r9 s => (∃ z : Int, (z = 0 ∨ z = 1) ∧ ((z = 1 → ra_g s 179 20 = 3 → ra_g σ 179 17 < ra_g s 179 17) ∧ x4ROC B bn s z (tx_lock B bn r ta)) ∧ r9 = .inl (some (ra_I z))) ∧ Fr (179) (189) σ s ∧ s (181) = σ (181) ∧ s (182) = σ (182) ∧ s (183) = σ (183) ∧ s (184) = σ (184) ∧ (∀ a, a ≠ 15 → a ≠ 16 → a ≠ 17 → a ≠ 18 → a ≠ 19 → a ≠ 20 → a ≠ 21 → ra_g s 179 a = ra_g σ 179 a) ∧ LD s ∧ (0 ≤ ra_g s 179 18 ∧ ra_g s 179 18 ≤ ra_g s 179 17 ∧ ra_g s 179 17 ≤ ra_g s 179 12 ∧ ra_g s 179 12 ≤ 500 ∧ 0 ≤ ra_g s 179 19 ∧ ra_g s 179 19 ≤ 999) ∧ ra_g σ 179 17 ≤ ra_g s 179 17 ∧ s (187) = σ (187)) := by
  refine ra_enter (nn := 0) mt_257 rfl (Nat.le_of_ble_eq_true rfl) rfl (fun h => absurd h (by decide +kernel)) ?_
  have hw0 := WF_a hld.1
  unfold WFa at hw0
  have hl5 := hld.2.2.1
  have hR0 := hR
  obtain ⟨⟨q0, q1, q2, q3, q4, q5⟩, q21, -, ⟨q15, q16⟩, qp⟩ := hR0
  have hN0 := hN
  obtain ⟨n1, n2, n3, -, n5, n6, n7⟩ := hN0
  refine ra_load rfl rfl rfl rfl ?_
  refine ra_cV (s4_249 (by have q := hpt; omega) hB (show ra_g σ 179 17 = ((tx_e B bn ta : Nat) : Int) from (rfl).trans hN.2.1) (by omega)) rfl (ct_249 rfl lk_8_240 (Or.inl rfl) sh_179 (Nat.le_of_ble_eq_true rfl)) (fun s1 hs1 => ?_)
  obtain ⟨hf2, he3, he4, he5, he6⟩ := hs1
  have hF7 := Fr_tr (lo := 179) (hi := 189) Fr_rf hf2 (by omega)
  have hk8 : s1 (180) = σ (180) := (hf2 (180) (by omega))
  have hk9 : s1 (181) = σ (181) := (hf2 (181) (by omega))
  have hk10 : s1 (182) = σ (182) := (hf2 (182) (by omega))
  have hk11 : s1 (183) = σ (183) := (hf2 (183) (by omega))
  have hk12 : s1 (184) = σ (184) := (hf2 (184) (by omega))
  have hk13 : s1 (187) = σ (187) := (hf2 (187) (by omega))
  refine ra_load rfl rfl rfl rfl ?_
  refine ra_iconst rfl ?_
  refine ra_load rfl rfl rfl rfl ?_
  refine ra_getR rfl lk_8_7 (Nat.zero_le _) sh_179 rfl ?_
  refine ra_iconst rfl ?_
  refine ra_ialoadJ (j := 5) rfl sh_180 rfl (by decide) rfl (by decide) ?_
  rw [ra_gk hk8]
  have hr14 : ra_in (ra_g σ (180) 5) := (ra_in_g _ _ _)
  refine ra_iconst rfl ?_
  refine ra_isub rfl ?_
  refine ra_cQPs (s4_253 (by first | omega | (unfold ra_in at *; omega)) (by first | omega | (unfold ra_in at *; omega)) (by have q := he4; omega) he6 (((he3 15 (by decide) (by decide) (by decide) (by decide))).trans q15)) rfl (ct_253 rfl lk_8_236 (Or.inl rfl) sh_179 (Nat.le_of_ble_eq_true rfl)) (fun z16 s15 hz16 hz16p hs15 => ?_)
  have hz16o := hz16p.1
  have hz16q := hz16p.2
  obtain ⟨hf17, he18⟩ := hs15
  have hF19 := Fr_tr (lo := 179) (hi := 189) hF7 hf17 (by omega)
  have hk20 : s15 (180) = σ (180) := (hf17 (180) (by omega)).trans hk8
  have hk21 : s15 (181) = σ (181) := (hf17 (181) (by omega)).trans hk9
  have hk22 : s15 (182) = σ (182) := (hf17 (182) (by omega)).trans hk10
  have hk23 : s15 (183) = σ (183) := (hf17 (183) (by omega)).trans hk11
  have hk24 : s15 (184) = σ (184) := (hf17 (184) (by omega)).trans hk12
  have hk25 : s15 (187) = σ (187) := (hf17 (187) (by omega)).trans hk13
  refine ra_ifne rfl rfl (ra_in01 hz16) (fun h26 => ?_) (fun h26 => ?_)
  · have hv := hz16o (by omega)
    have ev_s15 : ra_g s15 179 19 = ra_g s1 179 19 := (he18 19 (by decide) (by decide))
    have e5 : ra_g s1 180 5 = ra_g σ 180 5 := ra_gk (hf2 180 (by omega))
    rw [q5] at hz16q
    obtain ⟨-, hr1, hl1, hu1, he1, he1b⟩ := hz16q.resolve_right (fun q => by omega)
    have hv19 : ra_g s15 179 19 = ra_g s1 179 19 := (he18 19 (by decide) (by decide))
    have d0 := qp (ra_g s15 179 19).toNat (by omega) (by omega)
    have d1 : wq σ (ra_g s15 179 19) 5 = ra_g σ 180 (29 + 8 * (ra_g s15 179 19).toNat) := congrArg (ra_g σ 180) (by omega)
    rw [← hv19] at hr1
    refine ra_load rfl rfl rfl rfl ?_
    refine ra_load rfl rfl rfl rfl ?_
    refine ra_getI rfl lk_8_201 (Nat.zero_le _) sh_179 rfl ?_
    have hr27 : ra_in (ra_g s15 (179) 19) := (ra_in_g _ _ _)
    refine ra_iconst rfl ?_
    refine ra_cTp (sp_199 hr27 (by first | omega | (unfold ra_in at *; omega)) (by first | assumption | rfl | omega)) rfl (ct_199 rfl lk_8_67 (Or.inl rfl) sh_179 (Nat.le_of_ble_eq_true rfl)) ?_
    rw [wq_k hk20]
    have hr29 : ra_in (wq σ (ra_g s15 (179) 19) (5)) := (ra_in_wq _ _ _)
    refine ra_iconst rfl ?_
    refine ra_icne rfl rfl hr29 (by first | omega | (unfold ra_in at *; omega)) (fun h30 => ?_) (fun h30 => ?_)
    · refine ra_load rfl rfl rfl rfl ?_
      refine ra_load rfl rfl rfl rfl ?_
      refine ra_getI rfl lk_8_201 (Nat.zero_le _) sh_179 rfl ?_
      have hr31 : ra_in (ra_g s15 (179) 19) := (ra_in_g _ _ _)
      refine ra_iconst rfl ?_
      refine ra_iconst rfl ?_
      refine ra_cV (sp_200 hr31 (by first | omega | (unfold ra_in at *; omega)) (by first | omega | (unfold ra_in at *; omega)) (by first | assumption | rfl | omega)) rfl (ct_200 rfl lk_8_78 (Or.inl rfl) sh_179 (Nat.le_of_ble_eq_true rfl)) (fun s32 hs32 => ?_)
      obtain ⟨hf33, he34, he35⟩ := hs32
      have hF36 := Fr_tr (lo := 179) (hi := 189) hF19 hf33 (by omega)
      have hk37 : s32 (181) = σ (181) := (hf33 (181) (by omega)).trans hk21
      have hk38 : s32 (182) = σ (182) := (hf33 (182) (by omega)).trans hk22
      have hk39 : s32 (183) = σ (183) := (hf33 (183) (by omega)).trans hk23
      have hk40 : s32 (184) = σ (184) := (hf33 (184) (by omega)).trans hk24
      have hk41 : s32 (187) = σ (187) := (hf33 (187) (by omega)).trans hk25
      refine ra_load rfl rfl rfl rfl ?_
      refine ra_cV (s4_249 (by have q := (pt_e (ra_gk (hf33 179 (by omega))) (ra_gk (hf33 179 (by omega))) (ra_gk (hf33 179 (by omega))) (ra_gk (hf33 179 (by omega))) (pt_e (he18 12 (by decide) (by decide)) (he18 17 (by decide) (by decide)) (he18 18 (by decide) (by decide)) (he18 19 (by decide) (by decide)) he4)); omega) (x4TR_k ((ra_gk (hf33 179 (by omega))).trans ((he18 12 (by decide) (by decide)).trans (he3 12 (by decide) (by decide) (by decide) (by decide)))) ((hf33 (187) (by omega)).trans ((hf17 (187) (by omega)).trans (hf2 (187) (by omega)))) hB) (show ra_g s32 179 17 = ((x4tx_n B bn (tx_e B bn ta) : Nat) : Int) from (((ra_gk (hf33 179 (by omega))).trans (he18 17 (by decide) (by decide)))).trans he6.2.1) (x4RTK_n he6)) rfl (ct_249 rfl lk_8_240 (Or.inl rfl) sh_179 (Nat.le_of_ble_eq_true rfl)) (fun s42 hs42 => ?_)
      obtain ⟨hf43, he44, he45, he46, he47⟩ := hs42
      have hF48 := Fr_tr (lo := 179) (hi := 189) hF36 hf43 (by omega)
      have hk49 : s42 (181) = σ (181) := (hf43 (181) (by omega)).trans hk37
      have hk50 : s42 (182) = σ (182) := (hf43 (182) (by omega)).trans hk38
      have hk51 : s42 (183) = σ (183) := (hf43 (183) (by omega)).trans hk39
      have hk52 : s42 (184) = σ (184) := (hf43 (184) (by omega)).trans hk40
      have hk53 : s42 (187) = σ (187) := (hf43 (187) (by omega)).trans hk41
      refine ra_iconst rfl ?_
      exact ra_ireturn rfl (ra_okB (Or.inr rfl)) ⟨⟨_, (Or.inr rfl), ⟨(fun _ q => by have m_s1 := he5.1; have m_s15 : ra_g s15 179 17 = ra_g s1 179 17 := (he18 17 (by decide) (by decide)); have k_s15 : ra_g s15 179 20 = ra_g s1 179 20 := (he18 20 (by decide) (by decide)); have m_s32 : ra_g s32 179 17 = ra_g s15 179 17 := (ra_gk (hf33 179 (by omega))); have k_s32 : ra_g s32 179 20 = ra_g s15 179 20 := (ra_gk (hf33 179 (by omega))); have m_s42 := he46.1; have m_a := he46.2; omega), (x4ro_y rfl (x4lock_y hr1 (by omega)) (x4RR_lock (j := (ra_g s15 179 19).toNat) (by omega) (by omega) hR ((ra_gk (hf43 (180) (by omega))).trans ((congrArg (ra_g s32 180) (by omega : 29 + 8 * (ra_g s15 179 19).toNat = (24 + 8 * ra_g s15 179 19 + 5).toNat)).trans he34)) (fun a ha => (ra_gk (hf43 (180) (by omega))).trans ((he35 a (by omega)).trans (ra_gk ((hf17 (180) (by omega)).trans (hf2 (180) (by omega)))))) ⟨by have a : ra_g s42 179 15 = ra_g s15 179 15 := ((he44 15 (by decide) (by decide) (by decide) (by decide)).trans (ra_gk (hf33 179 (by omega)))); omega, by have a : ra_g s42 179 16 = ra_g s15 179 16 := ((he44 16 (by decide) (by decide) (by decide) (by decide)).trans (ra_gk (hf33 179 (by omega)))); have b : ra_g s1 179 16 = ra_g σ 179 16 := (he3 16 (by decide) (by decide) (by decide) (by decide)); omega, ((he44 21 (by decide) (by decide) (by decide) (by decide)).trans ((ra_gk (hf33 179 (by omega))).trans ((he18 21 (by decide) (by decide)).trans (he3 21 (by decide) (by decide) (by decide) (by decide)))))⟩) he47 (x4RTK_n he6))⟩, rfl⟩, ⟨hF48, hk49, hk50, hk51, hk52, (fun a h15 h16 h17 h18 h19 h20 h21 => ((he44 a h17 h18 h19 h20).trans ((ra_gk (hf33 179 (by omega))).trans ((he18 a h15 h16).trans (he3 a h17 h18 h19 h20))))), (LD_k (hf43 180 (by omega)) (LD_lock (LD_k (hf17 180 (by omega)) (LD_k (hf2 180 (by omega)) hld)) ⟨by omega, by omega⟩ he35)), he45, (by have m_s1 := he5.1; have m_s15 : ra_g s15 179 17 = ra_g s1 179 17 := (he18 17 (by decide) (by decide)); have k_s15 : ra_g s15 179 20 = ra_g s1 179 20 := (he18 20 (by decide) (by decide)); have m_s32 : ra_g s32 179 17 = ra_g s15 179 17 := (ra_gk (hf33 179 (by omega))); have k_s32 : ra_g s32 179 20 = ra_g s15 179 20 := (ra_gk (hf33 179 (by omega))); have m_s42 := he46.1; omega), ((hf43 (187) (by omega)).trans ((hf33 (187) (by omega)).trans ((hf17 (187) (by omega)).trans (hf2 (187) (by omega)))))⟩⟩
    · refine ra_load rfl rfl rfl rfl ?_
      refine ra_iconst rfl ?_
      refine ra_cQP (s4_251 (by first | omega | (unfold ra_in at *; omega))) rfl (ct_251 rfl lk_8_233 (Or.inl rfl) sh_179 (Nat.le_of_ble_eq_true rfl)) (fun z55 s54 hz55 hz55p hs54 => ?_)
      obtain ⟨hf56, he57, he58⟩ := hs54
      have hF59 := Fr_tr (lo := 179) (hi := 189) hF19 hf56 (by omega)
      have hk60 : s54 (180) = σ (180) := (hf56 (180) (by omega)).trans hk20
      have hk61 : s54 (181) = σ (181) := (hf56 (181) (by omega)).trans hk21
      have hk62 : s54 (182) = σ (182) := (hf56 (182) (by omega)).trans hk22
      have hk63 : s54 (183) = σ (183) := (hf56 (183) (by omega)).trans hk23
      have hk64 : s54 (184) = σ (184) := (hf56 (184) (by omega)).trans hk24
      have hk65 : s54 (187) = σ (187) := (hf56 (187) (by omega)).trans hk25
      exact ra_ireturn rfl (ra_okB hz55) ⟨⟨_, hz55, ⟨(fun q => absurd q (by omega)), (x4ro_f (c := 3) (a := tx_a B bn (tx_e B bn ta)) hz55p (x4lock_t hr1 (by omega)) (by have q := he58 he1; omega) (by have q := he58 he1; have q9 := (x4RTK_k (he18 17 (by decide) (by decide)) (he18 18 (by decide) (by decide)) (he18 19 (by decide) (by decide)) (he18 20 (by decide) (by decide)) he6).1; omega))⟩, rfl⟩, ⟨hF59, hk61, hk62, hk63, hk64, (fun a h15 h16 h17 h18 h19 h20 h21 => ((he57 a h15 h16).trans ((he18 a h15 h16).trans (he3 a h17 h18 h19 h20)))), (LD_k (hf56 180 (by omega)) (LD_k (hf17 180 (by omega)) (LD_k (hf2 180 (by omega)) hld))), (pt_e (he57 12 (by decide) (by decide)) (he57 17 (by decide) (by decide)) (he57 18 (by decide) (by decide)) (he57 19 (by decide) (by decide)) (pt_e (he18 12 (by decide) (by decide)) (he18 17 (by decide) (by decide)) (he18 18 (by decide) (by decide)) (he18 19 (by decide) (by decide)) he4)), (by have m_s1 := he5.1; have m_s15 : ra_g s15 179 17 = ra_g s1 179 17 := (he18 17 (by decide) (by decide)); have k_s15 : ra_g s15 179 20 = ra_g s1 179 20 := (he18 20 (by decide) (by decide)); have m_s54 : ra_g s54 179 17 = ra_g s15 179 17 := (he57 17 (by decide) (by decide)); have k_s54 : ra_g s54 179 20 = ra_g s15 179 20 := (he57 20 (by decide) (by decide)); omega), ((hf56 (187) (by omega)).trans ((hf17 (187) (by omega)).trans (hf2 (187) (by omega))))⟩⟩
  · refine ra_iconst rfl ?_
    exact ra_ireturn rfl (ra_okB (Or.inl rfl)) ⟨⟨_, (Or.inl rfl), ⟨(fun q => absurd q (by decide)), (by have q9 := hz16q; rw [q5] at q9; exact x4ro_n q9 (by omega) rfl (fun x hx => x4lock_n hx))⟩, rfl⟩, ⟨hF19, hk21, hk22, hk23, hk24, (fun a h15 h16 h17 h18 h19 h20 h21 => ((he18 a h15 h16).trans (he3 a h17 h18 h19 h20))), (LD_k (hf17 180 (by omega)) (LD_k (hf2 180 (by omega)) hld)), (pt_e (he18 12 (by decide) (by decide)) (he18 17 (by decide) (by decide)) (he18 18 (by decide) (by decide)) (he18 19 (by decide) (by decide)) he4), (by have m_s1 := he5.1; have m_s15 : ra_g s15 179 17 = ra_g s1 179 17 := (he18 17 (by decide) (by decide)); have k_s15 : ra_g s15 179 20 = ra_g s1 179 20 := (he18 20 (by decide) (by decide)); omega), ((hf17 (187) (by omega)).trans (hf2 (187) (by omega)))⟩⟩
end
