/-! T5: what the class changes (printed by wip/gen/c6.py) -/
section
variable {τ : ra_V} {nh : Int} {R : Nat → ra_V} {qq : Nat}
theorem s5_36 {n : Nat} {f : Nat → Int32} {d : Nat} {D : Nat} {i0 : Nat} {x1 : Int} {σ : ra_V} (hD : isD D) (hi0 : i0 < 8) (hx1 : ra_in x1) (hT : x5CT τ σ D) (hW : x5W2 τ) (he : wq τ i0 0 = 1) (hto : 0 ≤ x1 ∧ x1 ≤ 600) : ra_C (g_Gs n f) g_sh 0 (d + 4) 36 [.index (D), .index (D + 5 + i0), ra_I x1] σ (fun r9 s => rV r9 ∧ Fr (D + 3) (D + 4) σ s ∧ x5CT (x5bgV τ i0 x1) s D) := by
  refine ra_enter (nn := 0) mt_36 rfl (Nat.le_of_ble_eq_true rfl) rfl (fun h => absurd h (by decide +kernel)) ?_
  have hc := x5CT_s hT
  have hwa := WF_a hW.1
  unfold WFa at hwa
  have hp := x5CT_p hT hi0 he
  have hpw := WF_p hW.1 (p := (i0 : Int)) (by omega) (by omega) he
  refine ra_load rfl rfl rfl rfl ?_
  refine ra_getR rfl lk_0_24 (Nat.zero_le _) (sh_D hD) rfl ?_
  refine ra_load rfl rfl rfl rfl ?_
  refine ra_load rfl rfl rfl rfl ?_
  refine ra_load rfl rfl rfl rfl ?_
  refine ra_load rfl rfl rfl rfl ?_
  refine ra_getI rfl lk_0_47 (Nat.zero_le _) (sh_D hD) rfl ?_
  rw [show (ra_g σ (D) 8) = ra_g τ 180 4 from hc.2.2.2.2.1]
  have hr1 : ra_in (ra_g τ 180 4) := (ra_in_g _ _ _)
  refine ra_cQPp (s5_20 hD hi0 hx1 hr1 (by first | assumption | rfl | omega) (by first | assumption | rfl | omega) (by first | assumption | rfl | omega) (by omega)) rfl (ct_20 rfl lk_0_158 (Or.inl rfl) (sh_D hD) (Nat.le_of_ble_eq_true rfl)) (fun z3 hz3 hz3p => ?_)
  refine ra_ifeq rfl rfl (ra_in01 hz3) (fun h4 => ?_) (fun h4 => ?_)
  · refine ra_iconst rfl ?_
    refine ra_putI rfl lk_0_205 (Nat.zero_le _) (sh_D3 hD) rfl rfl ?_
    refine ra_newU (by first | omega | (unfold ra_in at *; omega)) (fun s5 hs5 hp6 hp6o => ?_)
    have hF7 := Fr_tr (lo := D + 3) (hi := D + 4) Fr_rf hs5 (by omega)
    have hk8 : s5 (D) = σ (D) := (hs5 (D) (by omega))
    have hk9 : s5 (D + 5 + i0) = σ (D + 5 + i0) := (hs5 (D + 5 + i0) (by omega))
    refine ra_load rfl rfl rfl rfl ?_
    refine ra_getR rfl lk_0_24 (Nat.zero_le _) (sh_D hD) rfl ?_
    refine ra_load rfl rfl rfl rfl ?_
    refine ra_getK rfl lk_0_91 (Nat.zero_le _) (sh_P hD hi0) rfl ?_
    refine ra_putI rfl lk_0_88 (Nat.zero_le _) (sh_D3 hD) rfl rfl ?_
    refine ra_newU (by first | omega | (unfold ra_in at *; omega)) (fun s10 hs10 hp11 hp11o => ?_)
    have hF12 := Fr_tr (lo := D + 3) (hi := D + 4) hF7 hs10 (by omega)
    have hk13 : s10 (D) = σ (D) := (hs10 (D) (by omega)).trans hk8
    have hk14 : s10 (D + 5 + i0) = σ (D + 5 + i0) := (hs10 (D + 5 + i0) (by omega)).trans hk9
    refine ra_load rfl rfl rfl rfl ?_
    refine ra_getR rfl lk_0_24 (Nat.zero_le _) (sh_D hD) rfl ?_
    refine ra_load rfl rfl rfl rfl ?_
    refine ra_getI rfl lk_0_65 (Nat.zero_le _) (sh_P hD hi0) rfl ?_
    rw [ra_gk hk14]
    rw [show (ra_g σ (D + 5 + i0) 2) = wq τ i0 2 from hp.2.1]
    have hr15 : ra_in (wq τ i0 2) := (ra_in_wq _ _ _)
    refine ra_putI rfl lk_0_240 (Nat.zero_le _) (sh_D3 hD) rfl rfl ?_
    refine ra_newU hr15 (fun s16 hs16 hp17 hp17o => ?_)
    have hF18 := Fr_tr (lo := D + 3) (hi := D + 4) hF12 hs16 (by omega)
    have hk19 : s16 (D) = σ (D) := (hs16 (D) (by omega)).trans hk13
    have hk20 : s16 (D + 5 + i0) = σ (D + 5 + i0) := (hs16 (D + 5 + i0) (by omega)).trans hk14
    refine ra_load rfl rfl rfl rfl ?_
    refine ra_getR rfl lk_0_24 (Nat.zero_le _) (sh_D hD) rfl ?_
    refine ra_load rfl rfl rfl rfl ?_
    refine ra_getI rfl lk_0_85 (Nat.zero_le _) (sh_P hD hi0) rfl ?_
    rw [ra_gk hk20]
    rw [show (ra_g σ (D + 5 + i0) 1) = wq τ i0 1 from hp.1]
    have hr21 : ra_in (wq τ i0 1) := (ra_in_wq _ _ _)
    refine ra_putI rfl lk_0_199 (Nat.zero_le _) (sh_D3 hD) rfl rfl ?_
    refine ra_newU hr21 (fun s22 hs22 hp23 hp23o => ?_)
    have hF24 := Fr_tr (lo := D + 3) (hi := D + 4) hF18 hs22 (by omega)
    have hk25 : s22 (D) = σ (D) := (hs22 (D) (by omega)).trans hk19
    have hk26 : s22 (D + 5 + i0) = σ (D + 5 + i0) := (hs22 (D + 5 + i0) (by omega)).trans hk20
    refine ra_load rfl rfl rfl rfl ?_
    refine ra_getR rfl lk_0_24 (Nat.zero_le _) (sh_D hD) rfl ?_
    refine ra_load rfl rfl rfl rfl ?_
    refine ra_putI rfl lk_0_193 (Nat.zero_le _) (sh_D3 hD) rfl rfl ?_
    refine ra_newU hx1 (fun s27 hs27 hp28 hp28o => ?_)
    have hF29 := Fr_tr (lo := D + 3) (hi := D + 4) hF24 hs27 (by omega)
    have hk30 : s27 (D) = σ (D) := (hs27 (D) (by omega)).trans hk25
    have hk31 : s27 (D + 5 + i0) = σ (D + 5 + i0) := (hs27 (D + 5 + i0) (by omega)).trans hk26
    refine ra_load rfl rfl rfl rfl ?_
    refine ra_getR rfl lk_0_24 (Nat.zero_le _) (sh_D hD) rfl ?_
    refine ra_load rfl rfl rfl rfl ?_
    refine ra_getI rfl lk_0_47 (Nat.zero_le _) (sh_D hD) rfl ?_
    rw [ra_gk hk30]
    rw [show (ra_g σ (D) 8) = ra_g τ 180 4 from hc.2.2.2.2.1]
    have hr32 : ra_in (ra_g τ 180 4) := (ra_in_g _ _ _)
    refine ra_putI rfl lk_0_241 (Nat.zero_le _) (sh_D3 hD) rfl rfl ?_
    refine ra_newU hr32 (fun s33 hs33 hp34 hp34o => ?_)
    have hF35 := Fr_tr (lo := D + 3) (hi := D + 4) hF29 hs33 (by omega)
    have hk36 : s33 (D) = σ (D) := (hs33 (D) (by omega)).trans hk30
    have hk37 : s33 (D + 5 + i0) = σ (D + 5 + i0) := (hs33 (D + 5 + i0) (by omega)).trans hk31
    refine ra_load rfl rfl rfl rfl ?_
    refine ra_getR rfl lk_0_24 (Nat.zero_le _) (sh_D hD) rfl ?_
    refine ra_load rfl rfl rfl rfl ?_
    refine ra_getI rfl lk_0_47 (Nat.zero_le _) (sh_D hD) rfl ?_
    rw [ra_gk hk36]
    rw [show (ra_g σ (D) 8) = ra_g τ 180 4 from hc.2.2.2.2.1]
    have hr38 : ra_in (ra_g τ 180 4) := (ra_in_g _ _ _)
    refine ra_iconst rfl ?_
    refine ra_icge rfl rfl hr38 (by first | omega | (unfold ra_in at *; omega)) (fun h39 => ?_) (fun h39 => ?_)
    · refine ra_load rfl rfl rfl rfl ?_
      refine ra_getI rfl lk_0_65 (Nat.zero_le _) (sh_P hD hi0) rfl ?_
      rw [ra_gk hk37]
      rw [show (ra_g σ (D + 5 + i0) 2) = wq τ i0 2 from hp.2.1]
      have hr40 : ra_in (wq τ i0 2) := (ra_in_wq _ _ _)
      refine ra_load rfl rfl rfl rfl ?_
      refine ra_getI rfl lk_0_47 (Nat.zero_le _) (sh_D hD) rfl ?_
      rw [ra_gk hk36]
      rw [show (ra_g σ (D) 8) = ra_g τ 180 4 from hc.2.2.2.2.1]
      have hr41 : ra_in (ra_g τ 180 4) := (ra_in_g _ _ _)
      refine ra_iadd rfl ?_
      refine ra_iconst rfl ?_
      refine ra_isub rfl ?_
      refine ra_load rfl rfl rfl rfl ?_
      refine ra_getI rfl lk_0_47 (Nat.zero_le _) (sh_D hD) rfl ?_
      rw [ra_gk hk36]
      rw [show (ra_g σ (D) 8) = ra_g τ 180 4 from hc.2.2.2.2.1]
      have hr42 : ra_in (ra_g τ 180 4) := (ra_in_g _ _ _)
      refine ra_idiv rfl (by first | omega | (unfold ra_in at *; omega)) hr42 (by omega) ?_
      refine ra_putI rfl lk_0_242 (Nat.zero_le _) (sh_D3 hD) rfl rfl ?_
      refine ra_newU (ra_in_tdiv (by first | omega | (unfold ra_in at *; omega)) (by omega)) (fun s43 hs43 hp44 hp44o => ?_)
      have hF45 := Fr_tr (lo := D + 3) (hi := D + 4) hF35 hs43 (by omega)
      have hk46 : s43 (D) = σ (D) := (hs43 (D) (by omega)).trans hk36
      have hk47 : s43 (D + 5 + i0) = σ (D + 5 + i0) := (hs43 (D + 5 + i0) (by omega)).trans hk37
      refine ra_load rfl rfl rfl rfl ?_
      refine ra_getR rfl lk_0_24 (Nat.zero_le _) (sh_D hD) rfl ?_
      refine ra_iconst rfl ?_
      refine ra_putI rfl lk_0_245 (Nat.zero_le _) (sh_D3 hD) rfl rfl ?_
      refine ra_newU (by first | omega | (unfold ra_in at *; omega)) (fun s48 hs48 hp49 hp49o => ?_)
      have hF50 := Fr_tr (lo := D + 3) (hi := D + 4) hF45 hs48 (by omega)
      have hk51 : s48 (D) = σ (D) := (hs48 (D) (by omega)).trans hk46
      have hk52 : s48 (D + 5 + i0) = σ (D + 5 + i0) := (hs48 (D + 5 + i0) (by omega)).trans hk47
      refine ra_load rfl rfl rfl rfl ?_
      refine ra_getR rfl lk_0_24 (Nat.zero_le _) (sh_D hD) rfl ?_
      refine ra_iconst rfl ?_
      refine ra_putB rfl lk_0_202 (Nat.zero_le _) (sh_D3 hD) rfl rfl (Or.inl rfl) ?_
      refine ra_newU (ra_in01 (Or.inl rfl)) (fun s53 hs53 hp54 hp54o => ?_)
      have hF55 := Fr_tr (lo := D + 3) (hi := D + 4) hF50 hs53 (by omega)
      have hk56 : s53 (D) = σ (D) := (hs53 (D) (by omega)).trans hk51
      have hk57 : s53 (D + 5 + i0) = σ (D + 5 + i0) := (hs53 (D + 5 + i0) (by omega)).trans hk52
      exact ra_return rfl rfl ⟨rfl, ⟨hF55, x5ct_bg hT hi0 hx1 (fun c c1 c2 c3 c4 => ((hs53 c (by omega)).trans ((hs48 c (by omega)).trans ((hs43 c (by omega)).trans ((hs33 c (by omega)).trans ((hs27 c (by omega)).trans ((hs22 c (by omega)).trans ((hs16 c (by omega)).trans ((hs10 c (by omega)).trans (hs5 c (by omega))))))))))) ((hp54o 0 (by decide)).trans ((hp49o 0 (by decide)).trans ((hp44o 0 (by decide)).trans ((hp34o 0 (by decide)).trans ((hp28o 0 (by decide)).trans ((hp23o 0 (by decide)).trans ((hp17o 0 (by decide)).trans hp11))))))) ((hp54o 1 (by decide)).trans ((hp49o 1 (by decide)).trans ((hp44o 1 (by decide)).trans ((hp34o 1 (by decide)).trans ((hp28o 1 (by decide)).trans ((hp23o 1 (by decide)).trans hp17)))))) ((hp54o 2 (by decide)).trans ((hp49o 2 (by decide)).trans ((hp44o 2 (by decide)).trans ((hp34o 2 (by decide)).trans ((hp28o 2 (by decide)).trans hp23))))) ((hp54o 3 (by decide)).trans ((hp49o 3 (by decide)).trans ((hp44o 3 (by decide)).trans ((hp34o 3 (by decide)).trans hp28)))) ((hp54o 4 (by decide)).trans ((hp49o 4 (by decide)).trans ((hp44o 4 (by decide)).trans hp34))) (((hp54o 5 (by decide)).trans ((hp49o 5 (by decide)).trans hp44))) ((((hp54o 6 (by decide)).trans ((hp49o 6 (by decide)).trans ((hp44o 6 (by decide)).trans ((hp34o 6 (by decide)).trans ((hp28o 6 (by decide)).trans ((hp23o 6 (by decide)).trans ((hp17o 6 (by decide)).trans ((hp11o 6 (by decide)).trans hp6))))))))).trans (x5scl_n (fun q => absurd (hz3p.mpr q) (by omega)))) ((hp54o 7 (by decide)).trans hp49) hp54⟩⟩
    · refine ra_iconst rfl ?_
      refine ra_goto rfl rfl ?_
      refine ra_putI rfl lk_0_242 (Nat.zero_le _) (sh_D3 hD) rfl rfl ?_
      refine ra_newU (by first | omega | (unfold ra_in at *; omega)) (fun s58 hs58 hp59 hp59o => ?_)
      have hF60 := Fr_tr (lo := D + 3) (hi := D + 4) hF35 hs58 (by omega)
      have hk61 : s58 (D) = σ (D) := (hs58 (D) (by omega)).trans hk36
      have hk62 : s58 (D + 5 + i0) = σ (D + 5 + i0) := (hs58 (D + 5 + i0) (by omega)).trans hk37
      refine ra_load rfl rfl rfl rfl ?_
      refine ra_getR rfl lk_0_24 (Nat.zero_le _) (sh_D hD) rfl ?_
      refine ra_iconst rfl ?_
      refine ra_putI rfl lk_0_245 (Nat.zero_le _) (sh_D3 hD) rfl rfl ?_
      refine ra_newU (by first | omega | (unfold ra_in at *; omega)) (fun s63 hs63 hp64 hp64o => ?_)
      have hF65 := Fr_tr (lo := D + 3) (hi := D + 4) hF60 hs63 (by omega)
      have hk66 : s63 (D) = σ (D) := (hs63 (D) (by omega)).trans hk61
      have hk67 : s63 (D + 5 + i0) = σ (D + 5 + i0) := (hs63 (D + 5 + i0) (by omega)).trans hk62
      refine ra_load rfl rfl rfl rfl ?_
      refine ra_getR rfl lk_0_24 (Nat.zero_le _) (sh_D hD) rfl ?_
      refine ra_iconst rfl ?_
      refine ra_putB rfl lk_0_202 (Nat.zero_le _) (sh_D3 hD) rfl rfl (Or.inl rfl) ?_
      refine ra_newU (ra_in01 (Or.inl rfl)) (fun s68 hs68 hp69 hp69o => ?_)
      have hF70 := Fr_tr (lo := D + 3) (hi := D + 4) hF65 hs68 (by omega)
      have hk71 : s68 (D) = σ (D) := (hs68 (D) (by omega)).trans hk66
      have hk72 : s68 (D + 5 + i0) = σ (D + 5 + i0) := (hs68 (D + 5 + i0) (by omega)).trans hk67
      exact ra_return rfl rfl ⟨rfl, (by exfalso; omega)⟩
  · refine ra_load rfl rfl rfl rfl ?_
    refine ra_load rfl rfl rfl rfl ?_
    refine ra_load rfl rfl rfl rfl ?_
    refine ra_load rfl rfl rfl rfl ?_
    refine ra_getI rfl lk_0_47 (Nat.zero_le _) (sh_D hD) rfl ?_
    rw [show (ra_g σ (D) 8) = ra_g τ 180 4 from hc.2.2.2.2.1]
    have hr73 : ra_in (ra_g τ 180 4) := (ra_in_g _ _ _)
    refine ra_cIPp (s5_21 hD hi0 hx1 hr73 (by first | assumption | rfl | omega) (by first | assumption | rfl | omega) (by first | assumption | rfl | omega) (by omega)) rfl (ct_21 rfl lk_0_162 (Or.inl rfl) (sh_D hD) (Nat.le_of_ble_eq_true rfl)) (fun z75 hz75 hz75p => ?_)
    refine ra_goto rfl rfl ?_
    refine ra_putI rfl lk_0_205 (Nat.zero_le _) (sh_D3 hD) rfl rfl ?_
    refine ra_newU hz75 (fun s76 hs76 hp77 hp77o => ?_)
    have hF78 := Fr_tr (lo := D + 3) (hi := D + 4) Fr_rf hs76 (by omega)
    have hk79 : s76 (D) = σ (D) := (hs76 (D) (by omega))
    have hk80 : s76 (D + 5 + i0) = σ (D + 5 + i0) := (hs76 (D + 5 + i0) (by omega))
    refine ra_load rfl rfl rfl rfl ?_
    refine ra_getR rfl lk_0_24 (Nat.zero_le _) (sh_D hD) rfl ?_
    refine ra_load rfl rfl rfl rfl ?_
    refine ra_getK rfl lk_0_91 (Nat.zero_le _) (sh_P hD hi0) rfl ?_
    refine ra_putI rfl lk_0_88 (Nat.zero_le _) (sh_D3 hD) rfl rfl ?_
    refine ra_newU (by first | omega | (unfold ra_in at *; omega)) (fun s81 hs81 hp82 hp82o => ?_)
    have hF83 := Fr_tr (lo := D + 3) (hi := D + 4) hF78 hs81 (by omega)
    have hk84 : s81 (D) = σ (D) := (hs81 (D) (by omega)).trans hk79
    have hk85 : s81 (D + 5 + i0) = σ (D + 5 + i0) := (hs81 (D + 5 + i0) (by omega)).trans hk80
    refine ra_load rfl rfl rfl rfl ?_
    refine ra_getR rfl lk_0_24 (Nat.zero_le _) (sh_D hD) rfl ?_
    refine ra_load rfl rfl rfl rfl ?_
    refine ra_getI rfl lk_0_65 (Nat.zero_le _) (sh_P hD hi0) rfl ?_
    rw [ra_gk hk85]
    rw [show (ra_g σ (D + 5 + i0) 2) = wq τ i0 2 from hp.2.1]
    have hr86 : ra_in (wq τ i0 2) := (ra_in_wq _ _ _)
    refine ra_putI rfl lk_0_240 (Nat.zero_le _) (sh_D3 hD) rfl rfl ?_
    refine ra_newU hr86 (fun s87 hs87 hp88 hp88o => ?_)
    have hF89 := Fr_tr (lo := D + 3) (hi := D + 4) hF83 hs87 (by omega)
    have hk90 : s87 (D) = σ (D) := (hs87 (D) (by omega)).trans hk84
    have hk91 : s87 (D + 5 + i0) = σ (D + 5 + i0) := (hs87 (D + 5 + i0) (by omega)).trans hk85
    refine ra_load rfl rfl rfl rfl ?_
    refine ra_getR rfl lk_0_24 (Nat.zero_le _) (sh_D hD) rfl ?_
    refine ra_load rfl rfl rfl rfl ?_
    refine ra_getI rfl lk_0_85 (Nat.zero_le _) (sh_P hD hi0) rfl ?_
    rw [ra_gk hk91]
    rw [show (ra_g σ (D + 5 + i0) 1) = wq τ i0 1 from hp.1]
    have hr92 : ra_in (wq τ i0 1) := (ra_in_wq _ _ _)
    refine ra_putI rfl lk_0_199 (Nat.zero_le _) (sh_D3 hD) rfl rfl ?_
    refine ra_newU hr92 (fun s93 hs93 hp94 hp94o => ?_)
    have hF95 := Fr_tr (lo := D + 3) (hi := D + 4) hF89 hs93 (by omega)
    have hk96 : s93 (D) = σ (D) := (hs93 (D) (by omega)).trans hk90
    have hk97 : s93 (D + 5 + i0) = σ (D + 5 + i0) := (hs93 (D + 5 + i0) (by omega)).trans hk91
    refine ra_load rfl rfl rfl rfl ?_
    refine ra_getR rfl lk_0_24 (Nat.zero_le _) (sh_D hD) rfl ?_
    refine ra_load rfl rfl rfl rfl ?_
    refine ra_putI rfl lk_0_193 (Nat.zero_le _) (sh_D3 hD) rfl rfl ?_
    refine ra_newU hx1 (fun s98 hs98 hp99 hp99o => ?_)
    have hF100 := Fr_tr (lo := D + 3) (hi := D + 4) hF95 hs98 (by omega)
    have hk101 : s98 (D) = σ (D) := (hs98 (D) (by omega)).trans hk96
    have hk102 : s98 (D + 5 + i0) = σ (D + 5 + i0) := (hs98 (D + 5 + i0) (by omega)).trans hk97
    refine ra_load rfl rfl rfl rfl ?_
    refine ra_getR rfl lk_0_24 (Nat.zero_le _) (sh_D hD) rfl ?_
    refine ra_load rfl rfl rfl rfl ?_
    refine ra_getI rfl lk_0_47 (Nat.zero_le _) (sh_D hD) rfl ?_
    rw [ra_gk hk101]
    rw [show (ra_g σ (D) 8) = ra_g τ 180 4 from hc.2.2.2.2.1]
    have hr103 : ra_in (ra_g τ 180 4) := (ra_in_g _ _ _)
    refine ra_putI rfl lk_0_241 (Nat.zero_le _) (sh_D3 hD) rfl rfl ?_
    refine ra_newU hr103 (fun s104 hs104 hp105 hp105o => ?_)
    have hF106 := Fr_tr (lo := D + 3) (hi := D + 4) hF100 hs104 (by omega)
    have hk107 : s104 (D) = σ (D) := (hs104 (D) (by omega)).trans hk101
    have hk108 : s104 (D + 5 + i0) = σ (D + 5 + i0) := (hs104 (D + 5 + i0) (by omega)).trans hk102
    refine ra_load rfl rfl rfl rfl ?_
    refine ra_getR rfl lk_0_24 (Nat.zero_le _) (sh_D hD) rfl ?_
    refine ra_load rfl rfl rfl rfl ?_
    refine ra_getI rfl lk_0_47 (Nat.zero_le _) (sh_D hD) rfl ?_
    rw [ra_gk hk107]
    rw [show (ra_g σ (D) 8) = ra_g τ 180 4 from hc.2.2.2.2.1]
    have hr109 : ra_in (ra_g τ 180 4) := (ra_in_g _ _ _)
    refine ra_iconst rfl ?_
    refine ra_icge rfl rfl hr109 (by first | omega | (unfold ra_in at *; omega)) (fun h110 => ?_) (fun h110 => ?_)
    · refine ra_load rfl rfl rfl rfl ?_
      refine ra_getI rfl lk_0_65 (Nat.zero_le _) (sh_P hD hi0) rfl ?_
      rw [ra_gk hk108]
      rw [show (ra_g σ (D + 5 + i0) 2) = wq τ i0 2 from hp.2.1]
      have hr111 : ra_in (wq τ i0 2) := (ra_in_wq _ _ _)
      refine ra_load rfl rfl rfl rfl ?_
      refine ra_getI rfl lk_0_47 (Nat.zero_le _) (sh_D hD) rfl ?_
      rw [ra_gk hk107]
      rw [show (ra_g σ (D) 8) = ra_g τ 180 4 from hc.2.2.2.2.1]
      have hr112 : ra_in (ra_g τ 180 4) := (ra_in_g _ _ _)
      refine ra_iadd rfl ?_
      refine ra_iconst rfl ?_
      refine ra_isub rfl ?_
      refine ra_load rfl rfl rfl rfl ?_
      refine ra_getI rfl lk_0_47 (Nat.zero_le _) (sh_D hD) rfl ?_
      rw [ra_gk hk107]
      rw [show (ra_g σ (D) 8) = ra_g τ 180 4 from hc.2.2.2.2.1]
      have hr113 : ra_in (ra_g τ 180 4) := (ra_in_g _ _ _)
      refine ra_idiv rfl (by first | omega | (unfold ra_in at *; omega)) hr113 (by omega) ?_
      refine ra_putI rfl lk_0_242 (Nat.zero_le _) (sh_D3 hD) rfl rfl ?_
      refine ra_newU (ra_in_tdiv (by first | omega | (unfold ra_in at *; omega)) (by omega)) (fun s114 hs114 hp115 hp115o => ?_)
      have hF116 := Fr_tr (lo := D + 3) (hi := D + 4) hF106 hs114 (by omega)
      have hk117 : s114 (D) = σ (D) := (hs114 (D) (by omega)).trans hk107
      have hk118 : s114 (D + 5 + i0) = σ (D + 5 + i0) := (hs114 (D + 5 + i0) (by omega)).trans hk108
      refine ra_load rfl rfl rfl rfl ?_
      refine ra_getR rfl lk_0_24 (Nat.zero_le _) (sh_D hD) rfl ?_
      refine ra_iconst rfl ?_
      refine ra_putI rfl lk_0_245 (Nat.zero_le _) (sh_D3 hD) rfl rfl ?_
      refine ra_newU (by first | omega | (unfold ra_in at *; omega)) (fun s119 hs119 hp120 hp120o => ?_)
      have hF121 := Fr_tr (lo := D + 3) (hi := D + 4) hF116 hs119 (by omega)
      have hk122 : s119 (D) = σ (D) := (hs119 (D) (by omega)).trans hk117
      have hk123 : s119 (D + 5 + i0) = σ (D + 5 + i0) := (hs119 (D + 5 + i0) (by omega)).trans hk118
      refine ra_load rfl rfl rfl rfl ?_
      refine ra_getR rfl lk_0_24 (Nat.zero_le _) (sh_D hD) rfl ?_
      refine ra_iconst rfl ?_
      refine ra_putB rfl lk_0_202 (Nat.zero_le _) (sh_D3 hD) rfl rfl (Or.inl rfl) ?_
      refine ra_newU (ra_in01 (Or.inl rfl)) (fun s124 hs124 hp125 hp125o => ?_)
      have hF126 := Fr_tr (lo := D + 3) (hi := D + 4) hF121 hs124 (by omega)
      have hk127 : s124 (D) = σ (D) := (hs124 (D) (by omega)).trans hk122
      have hk128 : s124 (D + 5 + i0) = σ (D + 5 + i0) := (hs124 (D + 5 + i0) (by omega)).trans hk123
      exact ra_return rfl rfl ⟨rfl, ⟨hF126, x5ct_bg hT hi0 hx1 (fun c c1 c2 c3 c4 => ((hs124 c (by omega)).trans ((hs119 c (by omega)).trans ((hs114 c (by omega)).trans ((hs104 c (by omega)).trans ((hs98 c (by omega)).trans ((hs93 c (by omega)).trans ((hs87 c (by omega)).trans ((hs81 c (by omega)).trans (hs76 c (by omega))))))))))) ((hp125o 0 (by decide)).trans ((hp120o 0 (by decide)).trans ((hp115o 0 (by decide)).trans ((hp105o 0 (by decide)).trans ((hp99o 0 (by decide)).trans ((hp94o 0 (by decide)).trans ((hp88o 0 (by decide)).trans hp82))))))) ((hp125o 1 (by decide)).trans ((hp120o 1 (by decide)).trans ((hp115o 1 (by decide)).trans ((hp105o 1 (by decide)).trans ((hp99o 1 (by decide)).trans ((hp94o 1 (by decide)).trans hp88)))))) ((hp125o 2 (by decide)).trans ((hp120o 2 (by decide)).trans ((hp115o 2 (by decide)).trans ((hp105o 2 (by decide)).trans ((hp99o 2 (by decide)).trans hp94))))) ((hp125o 3 (by decide)).trans ((hp120o 3 (by decide)).trans ((hp115o 3 (by decide)).trans ((hp105o 3 (by decide)).trans hp99)))) ((hp125o 4 (by decide)).trans ((hp120o 4 (by decide)).trans ((hp115o 4 (by decide)).trans hp105))) (((hp125o 5 (by decide)).trans ((hp120o 5 (by decide)).trans hp115))) ((((hp125o 6 (by decide)).trans ((hp120o 6 (by decide)).trans ((hp115o 6 (by decide)).trans ((hp105o 6 (by decide)).trans ((hp99o 6 (by decide)).trans ((hp94o 6 (by decide)).trans ((hp88o 6 (by decide)).trans ((hp82o 6 (by decide)).trans hp77))))))))).trans (x5scl_y (hz3p.mp (by omega)) hz75p)) ((hp125o 7 (by decide)).trans hp120) hp125⟩⟩
    · refine ra_iconst rfl ?_
      refine ra_goto rfl rfl ?_
      refine ra_putI rfl lk_0_242 (Nat.zero_le _) (sh_D3 hD) rfl rfl ?_
      refine ra_newU (by first | omega | (unfold ra_in at *; omega)) (fun s129 hs129 hp130 hp130o => ?_)
      have hF131 := Fr_tr (lo := D + 3) (hi := D + 4) hF106 hs129 (by omega)
      have hk132 : s129 (D) = σ (D) := (hs129 (D) (by omega)).trans hk107
      have hk133 : s129 (D + 5 + i0) = σ (D + 5 + i0) := (hs129 (D + 5 + i0) (by omega)).trans hk108
      refine ra_load rfl rfl rfl rfl ?_
      refine ra_getR rfl lk_0_24 (Nat.zero_le _) (sh_D hD) rfl ?_
      refine ra_iconst rfl ?_
      refine ra_putI rfl lk_0_245 (Nat.zero_le _) (sh_D3 hD) rfl rfl ?_
      refine ra_newU (by first | omega | (unfold ra_in at *; omega)) (fun s134 hs134 hp135 hp135o => ?_)
      have hF136 := Fr_tr (lo := D + 3) (hi := D + 4) hF131 hs134 (by omega)
      have hk137 : s134 (D) = σ (D) := (hs134 (D) (by omega)).trans hk132
      have hk138 : s134 (D + 5 + i0) = σ (D + 5 + i0) := (hs134 (D + 5 + i0) (by omega)).trans hk133
      refine ra_load rfl rfl rfl rfl ?_
      refine ra_getR rfl lk_0_24 (Nat.zero_le _) (sh_D hD) rfl ?_
      refine ra_iconst rfl ?_
      refine ra_putB rfl lk_0_202 (Nat.zero_le _) (sh_D3 hD) rfl rfl (Or.inl rfl) ?_
      refine ra_newU (ra_in01 (Or.inl rfl)) (fun s139 hs139 hp140 hp140o => ?_)
      have hF141 := Fr_tr (lo := D + 3) (hi := D + 4) hF136 hs139 (by omega)
      have hk142 : s139 (D) = σ (D) := (hs139 (D) (by omega)).trans hk137
      have hk143 : s139 (D + 5 + i0) = σ (D + 5 + i0) := (hs139 (D + 5 + i0) (by omega)).trans hk138
      exact ra_return rfl rfl ⟨rfl, (by exfalso; omega)⟩
theorem s5_68 {n : Nat} {f : Nat → Int32} {d : Nat} {D : Nat} {σ : ra_V} (hD : isD D) : ra_C (g_Gs n f) g_sh 0 (d + 1) 68 [.index (D + 3)] σ (fun r9 s => rV r9 ∧ Fr (D + 3) (D + 4) σ s ∧ ra_g s (D + 3) 0 = -1) := by
  refine ra_enter (nn := 0) mt_68 rfl (Nat.le_of_ble_eq_true rfl) rfl (fun h => absurd h (by decide +kernel)) ?_
  refine ra_load rfl rfl rfl rfl ?_
  refine ra_iconst rfl ?_
  refine ra_putI rfl lk_3_9 (Nat.zero_le _) (sh_D3 hD) rfl rfl ?_
  refine ra_newU (by first | omega | (unfold ra_in at *; omega)) (fun s1 hs1 hp2 hp2o => ?_)
  have hF3 := Fr_tr (lo := D + 3) (hi := D + 4) Fr_rf hs1 (by omega)
  exact ra_return rfl rfl ⟨rfl, ⟨hF3, hp2⟩⟩
theorem s5_41 {n : Nat} {f : Nat → Int32} {d : Nat} {D : Nat} {σ : ra_V} (hD : isD D) (hT : x5CT τ σ D) (hqq : qq < 8) (h16 : ra_g τ 180 16 = (qq : Int)) (heq : wq τ qq 0 = 1) : ra_C (g_Gs n f) g_sh 0 (d + 3) 41 [.index (D)] σ (fun r9 s => rV r9 ∧ Fr (D) (D + 13) σ s ∧ ((∀ c, c ≠ D → c ≠ D + 3 → c ≠ D + 5 + qq → s c = σ c) ∧ ra_g s D 12 = ra_w (ra_g σ D 12 + 1) ∧ (∀ a, a ≠ 12 → ra_g s D a = ra_g σ D a) ∧ ra_g s (D + 3) 0 = -1 ∧ ra_g s (D + 5 + qq) 1 = ra_g σ (D + 3) 3 ∧ ra_g s (D + 5 + qq) 7 = ra_w (ra_g σ (D + 5 + qq) 7 + 1) ∧ (∀ a, a ≠ 1 → a ≠ 7 → ra_g s (D + 5 + qq) a = ra_g σ (D + 5 + qq) a))) := by
  refine ra_enter (nn := 1) mt_41 rfl (Nat.le_of_ble_eq_true rfl) rfl (fun h => absurd h (by decide +kernel)) ?_
  have hon := x5CT_on hT
  have heq2 : wq τ (ra_g τ 180 16) 0 = 1 := by rw [h16]; exact heq
  refine ra_load rfl rfl rfl rfl ?_
  refine ra_load rfl rfl rfl rfl ?_
  refine ra_getR rfl lk_0_24 (Nat.zero_le _) (sh_D hD) rfl ?_
  refine ra_getI rfl lk_0_88 (Nat.zero_le _) (sh_D3 hD) rfl ?_
  rw [show (ra_g σ (D + 3) 0) = ra_g τ 180 16 from hon]
  have hr1 : ra_in (ra_g τ 180 16) := (ra_in_g _ _ _)
  refine x5cPCp (s5_3 hD hr1 (by first | assumption | rfl | omega)) rfl (ct_3 rfl lk_0_186 (Or.inl rfl) (sh_D hD) (Nat.le_of_ble_eq_true rfl)) (fun hj3n => ?_) (fun j3 hj3 hj3b => ?_)
  · refine ra_store (L' := [_, _]) rfl rfl rfl (Nat.le_of_ble_eq_true rfl) rfl ?_
    refine ra_load rfl rfl rfl rfl ?_
    refine ra_nullT rfl rfl ?_
    refine ra_load rfl rfl rfl rfl ?_
    refine ra_dup rfl rfl ?_
    refine ra_getI rfl lk_0_59 (Nat.zero_le _) (sh_D hD) rfl ?_
    have hr4 : ra_in (ra_g σ (D) 12) := (ra_in_g _ _ _)
    refine ra_iconst rfl ?_
    refine ra_iadd rfl ?_
    refine x5wr_ ?_
    refine ra_putI rfl lk_0_59 (Nat.zero_le _) (sh_D hD) rfl rfl ?_
    refine ra_newU (ra_w_in _) (fun s5 hs5 hp6 hp6o => ?_)
    have hF7 := Fr_tr (lo := D) (hi := D + 13) Fr_rf hs5 (by omega)
    refine ra_load rfl rfl rfl rfl ?_
    refine ra_getR rfl lk_0_24 (Nat.zero_le _) (sh_D hD) rfl ?_
    refine ra_cV (s5_68 hD) rfl (ct_68 rfl lk_0_62 (Or.inl rfl) (sh_D3 hD) (Nat.le_of_ble_eq_true rfl)) (fun s8 hs8 => ?_)
    obtain ⟨hf9, he10⟩ := hs8
    have hF11 := Fr_tr (lo := D) (hi := D + 13) hF7 hf9 (by omega)
    exact ra_return rfl rfl ⟨rfl, (by exfalso; omega)⟩
  · refine ra_store (L' := [_, _]) rfl rfl rfl (Nat.le_of_ble_eq_true rfl) rfl ?_
    refine ra_load rfl rfl rfl rfl ?_
    refine ra_nullF rfl rfl ?_
    refine ra_load rfl rfl rfl rfl ?_
    refine ra_load rfl rfl rfl rfl ?_
    refine ra_getR rfl lk_0_24 (Nat.zero_le _) (sh_D hD) rfl ?_
    refine ra_getI rfl lk_0_193 (Nat.zero_le _) (sh_D3 hD) rfl ?_
    have hr12 : ra_in (ra_g σ (D + 3) 3) := (ra_in_g _ _ _)
    refine ra_putI rfl lk_0_85 (Nat.zero_le _) (sh_P hD hj3) rfl rfl ?_
    refine ra_newU hr12 (fun s13 hs13 hp14 hp14o => ?_)
    have hF15 := Fr_tr (lo := D) (hi := D + 13) Fr_rf hs13 (by omega)
    refine ra_load rfl rfl rfl rfl ?_
    refine ra_dup rfl rfl ?_
    refine ra_getI rfl lk_0_226 (Nat.zero_le _) (sh_P hD hj3) rfl ?_
    rw [show (ra_g s13 (D + 5 + j3) 7) = (ra_g σ (D + 5 + j3) 7) from (hp14o 7 (by decide))]
    have hr16 : ra_in (ra_g σ (D + 5 + j3) 7) := (by rw [← (show (ra_g s13 (D + 5 + j3) 7) = (ra_g σ (D + 5 + j3) 7) from (hp14o 7 (by decide)))]; exact ra_in_g _ _ _)
    refine ra_iconst rfl ?_
    refine ra_iadd rfl ?_
    refine x5wr_ ?_
    refine ra_putI rfl lk_0_226 (Nat.zero_le _) (sh_P hD hj3) rfl rfl ?_
    refine ra_newU (ra_w_in _) (fun s17 hs17 hp18 hp18o => ?_)
    have hF19 := Fr_tr (lo := D) (hi := D + 13) hF15 hs17 (by omega)
    refine ra_load rfl rfl rfl rfl ?_
    refine ra_dup rfl rfl ?_
    refine ra_getI rfl lk_0_59 (Nat.zero_le _) (sh_D hD) rfl ?_
    rw [show (ra_g s17 (D) 12) = (ra_g σ (D) 12) from ((ra_gk (hs17 (D) (by omega))).trans (ra_gk (hs13 (D) (by omega))))]
    have hr20 : ra_in (ra_g σ (D) 12) := (by rw [← (show (ra_g s17 (D) 12) = (ra_g σ (D) 12) from ((ra_gk (hs17 (D) (by omega))).trans (ra_gk (hs13 (D) (by omega)))))]; exact ra_in_g _ _ _)
    refine ra_iconst rfl ?_
    refine ra_iadd rfl ?_
    refine x5wr_ ?_
    refine ra_putI rfl lk_0_59 (Nat.zero_le _) (sh_D hD) rfl rfl ?_
    refine ra_newU (ra_w_in _) (fun s21 hs21 hp22 hp22o => ?_)
    have hF23 := Fr_tr (lo := D) (hi := D + 13) hF19 hs21 (by omega)
    refine ra_load rfl rfl rfl rfl ?_
    refine ra_getR rfl lk_0_24 (Nat.zero_le _) (sh_D hD) rfl ?_
    refine ra_cV (s5_68 hD) rfl (ct_68 rfl lk_0_62 (Or.inl rfl) (sh_D3 hD) (Nat.le_of_ble_eq_true rfl)) (fun s24 hs24 => ?_)
    obtain ⟨hf25, he26⟩ := hs24
    have hF27 := Fr_tr (lo := D) (hi := D + 13) hF23 hf25 (by omega)
    exact ra_return rfl rfl ⟨rfl, ⟨hF27, by have ej : j3 = qq := (by have q9 := hj3b.1; omega); rw [← ej]; exact ⟨(fun c c1 c2 c3 => ((hf25 c (by omega)).trans ((hs21 c (by omega)).trans ((hs17 c (by omega)).trans (hs13 c (by omega)))))), ((ra_gk (hf25 (D) (by omega))).trans hp22), fun a ha => ((ra_gk (hf25 (D) (by omega))).trans ((hp22o a (by omega)).trans ((ra_gk (hs17 (D) (by omega))).trans (ra_gk (hs13 (D) (by omega)))))), he26, ((ra_gk (hf25 (D + 5 + j3) (by omega))).trans ((ra_gk (hs21 (D + 5 + j3) (by omega))).trans ((hp18o 1 (by decide)).trans hp14))), ((ra_gk (hf25 (D + 5 + j3) (by omega))).trans ((ra_gk (hs21 (D + 5 + j3) (by omega))).trans hp18)), fun a a1 a7 => ((ra_gk (hf25 (D + 5 + j3) (by omega))).trans ((ra_gk (hs21 (D + 5 + j3) (by omega))).trans ((hp18o a (by omega)).trans (hp14o a (by omega)))))⟩⟩⟩
end
