/-! T5: what the class changes (printed by wip/gen/c6.py) -/
section
variable {τ : ra_V} {n : Int} {R : Nat → ra_V} {qq : Nat}
theorem s5_91 {n : Nat} {f : Nat → Int32} {d : Nat} {D i : Nat} {E0 i0 : Nat} {σ : ra_V} (hD : isD D) (hi : i < 8) (hE0 : isD E0) (hi0 : i0 < 8) (hDE : D + 13 ≤ E0 ∨ E0 + 13 ≤ D) : ra_C (g_Gs n f) g_sh 0 (d + 1) 91 [.index (D + 5 + i), .index (E0 + 5 + i0)] σ (fun r9 s => rV r9 ∧ Fr (D + 5 + i) (D + 5 + i + 1) σ s ∧ x5PCP σ s (D + 5 + i) (E0 + 5 + i0)) := by
  refine ra_enter (nn := 0) mt_91 rfl (Nat.le_of_ble_eq_true rfl) rfl (fun h => absurd h (by decide +kernel)) ?_
  refine ra_load rfl rfl rfl rfl ?_
  refine ra_load rfl rfl rfl rfl ?_
  refine ra_getI rfl lk_5_15 (Nat.zero_le _) (sh_P hE0 hi0) rfl ?_
  have hr1 : ra_in (ra_g σ (E0 + 5 + i0) 1) := (ra_in_g _ _ _)
  refine ra_putI rfl lk_5_15 (Nat.zero_le _) (sh_P hD hi) rfl rfl ?_
  refine ra_newU hr1 (fun s2 hs2 hp3 hp3o => ?_)
  have hF4 := Fr_tr (lo := D + 5 + i) (hi := D + 5 + i + 1) Fr_rf hs2 (by omega)
  have hk5 : s2 (E0 + 5 + i0) = σ (E0 + 5 + i0) := (hs2 (E0 + 5 + i0) (by omega))
  refine ra_load rfl rfl rfl rfl ?_
  refine ra_load rfl rfl rfl rfl ?_
  refine ra_getI rfl lk_5_18 (Nat.zero_le _) (sh_P hE0 hi0) rfl ?_
  rw [ra_gk hk5]
  have hr6 : ra_in (ra_g σ (E0 + 5 + i0) 2) := (ra_in_g _ _ _)
  refine ra_putI rfl lk_5_18 (Nat.zero_le _) (sh_P hD hi) rfl rfl ?_
  refine ra_newU hr6 (fun s7 hs7 hp8 hp8o => ?_)
  have hF9 := Fr_tr (lo := D + 5 + i) (hi := D + 5 + i + 1) hF4 hs7 (by omega)
  have hk10 : s7 (E0 + 5 + i0) = σ (E0 + 5 + i0) := (hs7 (E0 + 5 + i0) (by omega)).trans hk5
  refine ra_load rfl rfl rfl rfl ?_
  refine ra_load rfl rfl rfl rfl ?_
  refine ra_getI rfl lk_5_21 (Nat.zero_le _) (sh_P hE0 hi0) rfl ?_
  rw [ra_gk hk10]
  have hr11 : ra_in (ra_g σ (E0 + 5 + i0) 3) := (ra_in_g _ _ _)
  refine ra_putI rfl lk_5_21 (Nat.zero_le _) (sh_P hD hi) rfl rfl ?_
  refine ra_newU hr11 (fun s12 hs12 hp13 hp13o => ?_)
  have hF14 := Fr_tr (lo := D + 5 + i) (hi := D + 5 + i + 1) hF9 hs12 (by omega)
  have hk15 : s12 (E0 + 5 + i0) = σ (E0 + 5 + i0) := (hs12 (E0 + 5 + i0) (by omega)).trans hk10
  refine ra_load rfl rfl rfl rfl ?_
  refine ra_load rfl rfl rfl rfl ?_
  refine ra_getI rfl lk_5_24 (Nat.zero_le _) (sh_P hE0 hi0) rfl ?_
  rw [ra_gk hk15]
  have hr16 : ra_in (ra_g σ (E0 + 5 + i0) 4) := (ra_in_g _ _ _)
  refine ra_putI rfl lk_5_24 (Nat.zero_le _) (sh_P hD hi) rfl rfl ?_
  refine ra_newU hr16 (fun s17 hs17 hp18 hp18o => ?_)
  have hF19 := Fr_tr (lo := D + 5 + i) (hi := D + 5 + i + 1) hF14 hs17 (by omega)
  have hk20 : s17 (E0 + 5 + i0) = σ (E0 + 5 + i0) := (hs17 (E0 + 5 + i0) (by omega)).trans hk15
  refine ra_load rfl rfl rfl rfl ?_
  refine ra_load rfl rfl rfl rfl ?_
  refine ra_getB rfl lk_5_27 (Nat.zero_le _) (sh_P hE0 hi0) rfl ?_
  rw [ra_gk hk20]
  refine x5gz_ (fun z21 hz21 hz21i => ?_)
  refine ra_putB rfl lk_5_27 (Nat.zero_le _) (sh_P hD hi) rfl rfl hz21 ?_
  refine ra_newU (ra_in01 hz21) (fun s22 hs22 hp23 hp23o => ?_)
  have hF24 := Fr_tr (lo := D + 5 + i) (hi := D + 5 + i + 1) hF19 hs22 (by omega)
  have hk25 : s22 (E0 + 5 + i0) = σ (E0 + 5 + i0) := (hs22 (E0 + 5 + i0) (by omega)).trans hk20
  refine ra_load rfl rfl rfl rfl ?_
  refine ra_load rfl rfl rfl rfl ?_
  refine ra_getI rfl lk_5_31 (Nat.zero_le _) (sh_P hE0 hi0) rfl ?_
  rw [ra_gk hk25]
  have hr26 : ra_in (ra_g σ (E0 + 5 + i0) 6) := (ra_in_g _ _ _)
  refine ra_putI rfl lk_5_31 (Nat.zero_le _) (sh_P hD hi) rfl rfl ?_
  refine ra_newU hr26 (fun s27 hs27 hp28 hp28o => ?_)
  have hF29 := Fr_tr (lo := D + 5 + i) (hi := D + 5 + i + 1) hF24 hs27 (by omega)
  have hk30 : s27 (E0 + 5 + i0) = σ (E0 + 5 + i0) := (hs27 (E0 + 5 + i0) (by omega)).trans hk25
  refine ra_load rfl rfl rfl rfl ?_
  refine ra_load rfl rfl rfl rfl ?_
  refine ra_getI rfl lk_5_34 (Nat.zero_le _) (sh_P hE0 hi0) rfl ?_
  rw [ra_gk hk30]
  have hr31 : ra_in (ra_g σ (E0 + 5 + i0) 7) := (ra_in_g _ _ _)
  refine ra_putI rfl lk_5_34 (Nat.zero_le _) (sh_P hD hi) rfl rfl ?_
  refine ra_newU hr31 (fun s32 hs32 hp33 hp33o => ?_)
  have hF34 := Fr_tr (lo := D + 5 + i) (hi := D + 5 + i + 1) hF29 hs32 (by omega)
  have hk35 : s32 (E0 + 5 + i0) = σ (E0 + 5 + i0) := (hs32 (E0 + 5 + i0) (by omega)).trans hk30
  exact ra_return rfl rfl ⟨rfl, ⟨hF34, And.intro (fun j j1 j2 j3 => (fun q => q.elim (fun e => by subst e; exact ((hp33o 1 (by decide)).trans ((hp28o 1 (by decide)).trans ((hp23o 1 (by decide)).trans ((hp18o 1 (by decide)).trans ((hp13o 1 (by decide)).trans ((hp8o 1 (by decide)).trans hp3))))))) (fun q => q.elim (fun e => by subst e; exact ((hp33o 2 (by decide)).trans ((hp28o 2 (by decide)).trans ((hp23o 2 (by decide)).trans ((hp18o 2 (by decide)).trans ((hp13o 2 (by decide)).trans hp8)))))) (fun q => q.elim (fun e => by subst e; exact ((hp33o 3 (by decide)).trans ((hp28o 3 (by decide)).trans ((hp23o 3 (by decide)).trans ((hp18o 3 (by decide)).trans hp13))))) (fun q => q.elim (fun e => by subst e; exact ((hp33o 4 (by decide)).trans ((hp28o 4 (by decide)).trans ((hp23o 4 (by decide)).trans hp18)))) (fun q => q.elim (fun e => by subst e; exact ((hp33o 6 (by decide)).trans hp28)) (fun e => by subst e; exact hp33)))))) (show j = 1 ∨ j = 2 ∨ j = 3 ∨ j = 4 ∨ j = 6 ∨ j = 7 by omega)) (fun q => (((hp33o 5 (by decide)).trans ((hp28o 5 (by decide)).trans hp23))).trans (x5z01 hz21 hz21i q))⟩⟩
theorem s5_66 {n : Nat} {f : Nat → Int32} {d : Nat} {D : Nat} {E0 : Nat} {σ : ra_V} (hD : isD D) (hE0 : isD E0) (hDE : D + 13 ≤ E0 ∨ E0 + 13 ≤ D) : ra_C (g_Gs n f) g_sh 0 (d + 1) 66 [.index (D + 3), .index (E0 + 3)] σ (fun r9 s => rV r9 ∧ Fr (D + 3) (D + 4) σ s ∧ x5MCP σ s (D + 3) (E0 + 3)) := by
  refine ra_enter (nn := 0) mt_66 rfl (Nat.le_of_ble_eq_true rfl) rfl (fun h => absurd h (by decide +kernel)) ?_
  refine ra_load rfl rfl rfl rfl ?_
  refine ra_load rfl rfl rfl rfl ?_
  refine ra_getI rfl lk_3_9 (Nat.zero_le _) (sh_D3 hE0) rfl ?_
  have hr1 : ra_in (ra_g σ (E0 + 3) 0) := (ra_in_g _ _ _)
  refine ra_putI rfl lk_3_9 (Nat.zero_le _) (sh_D3 hD) rfl rfl ?_
  refine ra_newU hr1 (fun s2 hs2 hp3 hp3o => ?_)
  have hF4 := Fr_tr (lo := D + 3) (hi := D + 4) Fr_rf hs2 (by omega)
  have hk5 : s2 (E0 + 3) = σ (E0 + 3) := (hs2 (E0 + 3) (by omega))
  refine ra_load rfl rfl rfl rfl ?_
  refine ra_load rfl rfl rfl rfl ?_
  refine ra_getI rfl lk_3_18 (Nat.zero_le _) (sh_D3 hE0) rfl ?_
  rw [ra_gk hk5]
  have hr6 : ra_in (ra_g σ (E0 + 3) 1) := (ra_in_g _ _ _)
  refine ra_putI rfl lk_3_18 (Nat.zero_le _) (sh_D3 hD) rfl rfl ?_
  refine ra_newU hr6 (fun s7 hs7 hp8 hp8o => ?_)
  have hF9 := Fr_tr (lo := D + 3) (hi := D + 4) hF4 hs7 (by omega)
  have hk10 : s7 (E0 + 3) = σ (E0 + 3) := (hs7 (E0 + 3) (by omega)).trans hk5
  refine ra_load rfl rfl rfl rfl ?_
  refine ra_load rfl rfl rfl rfl ?_
  refine ra_getI rfl lk_3_21 (Nat.zero_le _) (sh_D3 hE0) rfl ?_
  rw [ra_gk hk10]
  have hr11 : ra_in (ra_g σ (E0 + 3) 2) := (ra_in_g _ _ _)
  refine ra_putI rfl lk_3_21 (Nat.zero_le _) (sh_D3 hD) rfl rfl ?_
  refine ra_newU hr11 (fun s12 hs12 hp13 hp13o => ?_)
  have hF14 := Fr_tr (lo := D + 3) (hi := D + 4) hF9 hs12 (by omega)
  have hk15 : s12 (E0 + 3) = σ (E0 + 3) := (hs12 (E0 + 3) (by omega)).trans hk10
  refine ra_load rfl rfl rfl rfl ?_
  refine ra_load rfl rfl rfl rfl ?_
  refine ra_getI rfl lk_3_24 (Nat.zero_le _) (sh_D3 hE0) rfl ?_
  rw [ra_gk hk15]
  have hr16 : ra_in (ra_g σ (E0 + 3) 3) := (ra_in_g _ _ _)
  refine ra_putI rfl lk_3_24 (Nat.zero_le _) (sh_D3 hD) rfl rfl ?_
  refine ra_newU hr16 (fun s17 hs17 hp18 hp18o => ?_)
  have hF19 := Fr_tr (lo := D + 3) (hi := D + 4) hF14 hs17 (by omega)
  have hk20 : s17 (E0 + 3) = σ (E0 + 3) := (hs17 (E0 + 3) (by omega)).trans hk15
  refine ra_load rfl rfl rfl rfl ?_
  refine ra_load rfl rfl rfl rfl ?_
  refine ra_getI rfl lk_3_27 (Nat.zero_le _) (sh_D3 hE0) rfl ?_
  rw [ra_gk hk20]
  have hr21 : ra_in (ra_g σ (E0 + 3) 4) := (ra_in_g _ _ _)
  refine ra_putI rfl lk_3_27 (Nat.zero_le _) (sh_D3 hD) rfl rfl ?_
  refine ra_newU hr21 (fun s22 hs22 hp23 hp23o => ?_)
  have hF24 := Fr_tr (lo := D + 3) (hi := D + 4) hF19 hs22 (by omega)
  have hk25 : s22 (E0 + 3) = σ (E0 + 3) := (hs22 (E0 + 3) (by omega)).trans hk20
  refine ra_load rfl rfl rfl rfl ?_
  refine ra_load rfl rfl rfl rfl ?_
  refine ra_getI rfl lk_3_30 (Nat.zero_le _) (sh_D3 hE0) rfl ?_
  rw [ra_gk hk25]
  have hr26 : ra_in (ra_g σ (E0 + 3) 5) := (ra_in_g _ _ _)
  refine ra_putI rfl lk_3_30 (Nat.zero_le _) (sh_D3 hD) rfl rfl ?_
  refine ra_newU hr26 (fun s27 hs27 hp28 hp28o => ?_)
  have hF29 := Fr_tr (lo := D + 3) (hi := D + 4) hF24 hs27 (by omega)
  have hk30 : s27 (E0 + 3) = σ (E0 + 3) := (hs27 (E0 + 3) (by omega)).trans hk25
  refine ra_load rfl rfl rfl rfl ?_
  refine ra_load rfl rfl rfl rfl ?_
  refine ra_getI rfl lk_3_15 (Nat.zero_le _) (sh_D3 hE0) rfl ?_
  rw [ra_gk hk30]
  have hr31 : ra_in (ra_g σ (E0 + 3) 6) := (ra_in_g _ _ _)
  refine ra_putI rfl lk_3_15 (Nat.zero_le _) (sh_D3 hD) rfl rfl ?_
  refine ra_newU hr31 (fun s32 hs32 hp33 hp33o => ?_)
  have hF34 := Fr_tr (lo := D + 3) (hi := D + 4) hF29 hs32 (by omega)
  have hk35 : s32 (E0 + 3) = σ (E0 + 3) := (hs32 (E0 + 3) (by omega)).trans hk30
  refine ra_load rfl rfl rfl rfl ?_
  refine ra_load rfl rfl rfl rfl ?_
  refine ra_getI rfl lk_3_33 (Nat.zero_le _) (sh_D3 hE0) rfl ?_
  rw [ra_gk hk35]
  have hr36 : ra_in (ra_g σ (E0 + 3) 7) := (ra_in_g _ _ _)
  refine ra_putI rfl lk_3_33 (Nat.zero_le _) (sh_D3 hD) rfl rfl ?_
  refine ra_newU hr36 (fun s37 hs37 hp38 hp38o => ?_)
  have hF39 := Fr_tr (lo := D + 3) (hi := D + 4) hF34 hs37 (by omega)
  have hk40 : s37 (E0 + 3) = σ (E0 + 3) := (hs37 (E0 + 3) (by omega)).trans hk35
  refine ra_load rfl rfl rfl rfl ?_
  refine ra_load rfl rfl rfl rfl ?_
  refine ra_getB rfl lk_3_36 (Nat.zero_le _) (sh_D3 hE0) rfl ?_
  rw [ra_gk hk40]
  refine x5gz_ (fun z41 hz41 hz41i => ?_)
  refine ra_putB rfl lk_3_36 (Nat.zero_le _) (sh_D3 hD) rfl rfl hz41 ?_
  refine ra_newU (ra_in01 hz41) (fun s42 hs42 hp43 hp43o => ?_)
  have hF44 := Fr_tr (lo := D + 3) (hi := D + 4) hF39 hs42 (by omega)
  have hk45 : s42 (E0 + 3) = σ (E0 + 3) := (hs42 (E0 + 3) (by omega)).trans hk40
  exact ra_return rfl rfl ⟨rfl, ⟨hF44, And.intro (fun j j1 => (fun q => q.elim (fun e => by subst e; exact ((hp43o 0 (by decide)).trans ((hp38o 0 (by decide)).trans ((hp33o 0 (by decide)).trans ((hp28o 0 (by decide)).trans ((hp23o 0 (by decide)).trans ((hp18o 0 (by decide)).trans ((hp13o 0 (by decide)).trans ((hp8o 0 (by decide)).trans hp3))))))))) (fun q => q.elim (fun e => by subst e; exact ((hp43o 1 (by decide)).trans ((hp38o 1 (by decide)).trans ((hp33o 1 (by decide)).trans ((hp28o 1 (by decide)).trans ((hp23o 1 (by decide)).trans ((hp18o 1 (by decide)).trans ((hp13o 1 (by decide)).trans hp8)))))))) (fun q => q.elim (fun e => by subst e; exact ((hp43o 2 (by decide)).trans ((hp38o 2 (by decide)).trans ((hp33o 2 (by decide)).trans ((hp28o 2 (by decide)).trans ((hp23o 2 (by decide)).trans ((hp18o 2 (by decide)).trans hp13))))))) (fun q => q.elim (fun e => by subst e; exact ((hp43o 3 (by decide)).trans ((hp38o 3 (by decide)).trans ((hp33o 3 (by decide)).trans ((hp28o 3 (by decide)).trans ((hp23o 3 (by decide)).trans hp18)))))) (fun q => q.elim (fun e => by subst e; exact ((hp43o 4 (by decide)).trans ((hp38o 4 (by decide)).trans ((hp33o 4 (by decide)).trans ((hp28o 4 (by decide)).trans hp23))))) (fun q => q.elim (fun e => by subst e; exact ((hp43o 5 (by decide)).trans ((hp38o 5 (by decide)).trans ((hp33o 5 (by decide)).trans hp28)))) (fun q => q.elim (fun e => by subst e; exact ((hp43o 6 (by decide)).trans ((hp38o 6 (by decide)).trans hp33))) (fun e => by subst e; exact ((hp43o 7 (by decide)).trans hp38))))))))) (show j = 0 ∨ j = 1 ∨ j = 2 ∨ j = 3 ∨ j = 4 ∨ j = 5 ∨ j = 6 ∨ j = 7 by omega)) (fun q => (hp43).trans (x5z01 hz41 hz41i q))⟩⟩
theorem l5_2_85 {n : Nat} {f : Nat → Int32} {d : Nat} {D : Nat} {E0 : Nat} {σ : ra_V} (hD : isD D) (hE0 : isD E0) (hDE : D + 13 ≤ E0 ∨ E0 + 13 ≤ D) : ∀ (nn : Nat) (v2 : Int) (s : ra_V) (hv2_0 : 0 ≤ v2) (hv2_1 : v2 ≤ 8) (hF : Fr (D) (D + 13) σ s) (hst : ∀ j : Nat, 4 ≤ j → j ≤ 12 → ra_g s D j = ra_g σ E0 j) (hcp : ∀ p : Nat, (p : Int) < v2 → x5PCP σ s (D + 5 + p) (E0 + 5 + p)) (hmc : x5MCP σ s (D + 3) (E0 + 3)) (hke : ∀ c, E0 ≤ c → c < E0 + 13 → s c = σ c) (hm : ((8 - v2 : Int)).toNat < nn), ra_P (g_Gs n f) g_sh 0 (d + 1) g_m_X0_copyFrom 85 [some (.index (D)), some (.index (E0)), some (ra_I v2)] [] s (fun r9 s => rV r9 ∧ Fr (D) (D + 13) σ s ∧ x5DCP σ s D E0) := by
  intro nn
  induction nn with
  | zero => intro v2 s hv2_0 hv2_1 hF hst hcp hmc hke hm; exact absurd hm (Nat.not_lt_zero _)
  | succ nn ih =>
    intro v2 s hv2_0 hv2_1 hF hst hcp hmc hke hm
    refine ra_load rfl rfl rfl rfl ?_
    refine ra_bipush rfl (by decide) ?_
    refine ra_icge rfl rfl (by first | omega | (unfold ra_in at *; omega)) (by first | omega | (unfold ra_in at *; omega)) (fun h51 => ?_) (fun h51 => ?_)
    · refine ra_load rfl rfl rfl rfl ?_
      refine ra_getR rfl lk_0_9 (Nat.zero_le _) (sh_D hE0) rfl ?_
      refine ra_iconst rfl ?_
      refine ra_load rfl rfl rfl rfl ?_
      refine ra_getR rfl lk_0_9 (Nat.zero_le _) (sh_D hD) rfl ?_
      refine ra_iconst rfl ?_
      refine ra_sipush rfl (by decide) ?_
      refine ra_acopy rfl lk_0_75 (sh_D1 hE0) (sh_D1 hD) rfl (by decide) (by decide) rfl rfl (Nat.le_of_ble_eq_true rfl) ?_
      refine ra_new Fr_cpy (fun s52 hs52 => ?_)
      have hF53 := Fr_tr (lo := D) (hi := D + 13) hF hs52 (by omega)
      exact ra_return rfl rfl ⟨rfl, ⟨hF53, And.intro (fun j j1 j2 => (ra_gk (hs52 (D) (by omega))).trans (hst j j1 j2)) (And.intro (fun p hp => x5PCP_k (hs52 (D + 5 + p) (by omega)) rfl (hcp p (by omega))) (x5MCP_k (hs52 (D + 3) (by omega)) rfl hmc))⟩⟩
    · refine ra_load rfl rfl rfl rfl ?_
      refine ra_getR rfl lk_0_17 (Nat.zero_le _) (sh_D hD) rfl ?_
      refine ra_load rfl rfl rfl rfl ?_
      refine ra_aaload rfl (sh_D2 hD) rfl (by decide) (by first | omega | (unfold ra_in at *; omega)) (by first | omega | (unfold ra_in at *; omega)) (sh_pt (by first | omega | (unfold ra_in at *; omega)) (by first | omega | (unfold ra_in at *; omega))) rfl ?_
      have hi54 : v2.toNat < 8 := (by first | omega | (unfold ra_in at *; omega))
      refine ra_load rfl rfl rfl rfl ?_
      refine ra_getR rfl lk_0_17 (Nat.zero_le _) (sh_D hE0) rfl ?_
      refine ra_load rfl rfl rfl rfl ?_
      refine ra_aaload rfl (sh_D2 hE0) rfl (by decide) (by first | omega | (unfold ra_in at *; omega)) (by first | omega | (unfold ra_in at *; omega)) (sh_pt (by first | omega | (unfold ra_in at *; omega)) (by first | omega | (unfold ra_in at *; omega))) rfl ?_
      have hi55 : v2.toNat < 8 := (by first | omega | (unfold ra_in at *; omega))
      refine ra_cV (s5_91 hD hi54 hE0 hi55 (by first | assumption | rfl | omega)) rfl (ct_91 rfl lk_0_72 (Or.inl rfl) (sh_P hD hi54) (Nat.le_of_ble_eq_true rfl)) (fun s56 hs56 => ?_)
      obtain ⟨hf57, he58⟩ := hs56
      have hF59 := Fr_tr (lo := D) (hi := D + 13) hF hf57 (by omega)
      refine ra_iinc (L' := [_, _, _]) rfl rfl (Nat.le_of_ble_eq_true rfl) rfl ?_
      refine ra_goto rfl rfl ?_
      exact ra_weak (by repeat' constructor) (ih (v2 + 1) s56 (by first | omega | (unfold ra_in at *; omega)) (by first | omega | (unfold ra_in at *; omega)) hF59 (fun j j1 j2 => (ra_gk (hf57 (D) (by omega))).trans (hst j j1 j2)) (fun p hp => if e : p = v2.toNat then (by rw [e]; exact x5PCP_k rfl (hke _ (by omega) (by omega)) he58) else x5PCP_k (hf57 (D + 5 + p) (by omega)) rfl (hcp p (by omega))) (x5MCP_k (hf57 (D + 3) (by omega)) rfl hmc) (fun c c1 c2 => (hf57 c (by omega)).trans (hke c c1 c2)) (by first | omega | (unfold ra_in at *; omega)))
theorem s5_2 {n : Nat} {f : Nat → Int32} {d : Nat} {D : Nat} {E0 : Nat} {σ : ra_V} (hD : isD D) (hE0 : isD E0) (hDE : D + 13 ≤ E0 ∨ E0 + 13 ≤ D) : ra_C (g_Gs n f) g_sh 0 (d + 2) 2 [.index (D), .index (E0)] σ (fun r9 s => rV r9 ∧ Fr (D) (D + 13) σ s ∧ x5DCP σ s D E0) := by
  refine ra_enter (nn := 1) mt_2 rfl (Nat.le_of_ble_eq_true rfl) rfl (fun h => absurd h (by decide +kernel)) ?_
  refine ra_load rfl rfl rfl rfl ?_
  refine ra_load rfl rfl rfl rfl ?_
  refine ra_getI rfl lk_0_34 (Nat.zero_le _) (sh_D hE0) rfl ?_
  have hr1 : ra_in (ra_g σ (E0) 4) := (ra_in_g _ _ _)
  refine ra_putI rfl lk_0_34 (Nat.zero_le _) (sh_D hD) rfl rfl ?_
  refine ra_newU hr1 (fun s2 hs2 hp3 hp3o => ?_)
  have hF4 := Fr_tr (lo := D) (hi := D + 13) Fr_rf hs2 (by omega)
  have hk5 : s2 (E0) = σ (E0) := (hs2 (E0) (by omega))
  refine ra_load rfl rfl rfl rfl ?_
  refine ra_load rfl rfl rfl rfl ?_
  refine ra_getI rfl lk_0_38 (Nat.zero_le _) (sh_D hE0) rfl ?_
  rw [ra_gk hk5]
  have hr6 : ra_in (ra_g σ (E0) 5) := (ra_in_g _ _ _)
  refine ra_putI rfl lk_0_38 (Nat.zero_le _) (sh_D hD) rfl rfl ?_
  refine ra_newU hr6 (fun s7 hs7 hp8 hp8o => ?_)
  have hF9 := Fr_tr (lo := D) (hi := D + 13) hF4 hs7 (by omega)
  have hk10 : s7 (E0) = σ (E0) := (hs7 (E0) (by omega)).trans hk5
  refine ra_load rfl rfl rfl rfl ?_
  refine ra_load rfl rfl rfl rfl ?_
  refine ra_getI rfl lk_0_41 (Nat.zero_le _) (sh_D hE0) rfl ?_
  rw [ra_gk hk10]
  have hr11 : ra_in (ra_g σ (E0) 6) := (ra_in_g _ _ _)
  refine ra_putI rfl lk_0_41 (Nat.zero_le _) (sh_D hD) rfl rfl ?_
  refine ra_newU hr11 (fun s12 hs12 hp13 hp13o => ?_)
  have hF14 := Fr_tr (lo := D) (hi := D + 13) hF9 hs12 (by omega)
  have hk15 : s12 (E0) = σ (E0) := (hs12 (E0) (by omega)).trans hk10
  refine ra_load rfl rfl rfl rfl ?_
  refine ra_load rfl rfl rfl rfl ?_
  refine ra_getI rfl lk_0_44 (Nat.zero_le _) (sh_D hE0) rfl ?_
  rw [ra_gk hk15]
  have hr16 : ra_in (ra_g σ (E0) 7) := (ra_in_g _ _ _)
  refine ra_putI rfl lk_0_44 (Nat.zero_le _) (sh_D hD) rfl rfl ?_
  refine ra_newU hr16 (fun s17 hs17 hp18 hp18o => ?_)
  have hF19 := Fr_tr (lo := D) (hi := D + 13) hF14 hs17 (by omega)
  have hk20 : s17 (E0) = σ (E0) := (hs17 (E0) (by omega)).trans hk15
  refine ra_load rfl rfl rfl rfl ?_
  refine ra_load rfl rfl rfl rfl ?_
  refine ra_getI rfl lk_0_47 (Nat.zero_le _) (sh_D hE0) rfl ?_
  rw [ra_gk hk20]
  have hr21 : ra_in (ra_g σ (E0) 8) := (ra_in_g _ _ _)
  refine ra_putI rfl lk_0_47 (Nat.zero_le _) (sh_D hD) rfl rfl ?_
  refine ra_newU hr21 (fun s22 hs22 hp23 hp23o => ?_)
  have hF24 := Fr_tr (lo := D) (hi := D + 13) hF19 hs22 (by omega)
  have hk25 : s22 (E0) = σ (E0) := (hs22 (E0) (by omega)).trans hk20
  refine ra_load rfl rfl rfl rfl ?_
  refine ra_load rfl rfl rfl rfl ?_
  refine ra_getI rfl lk_0_50 (Nat.zero_le _) (sh_D hE0) rfl ?_
  rw [ra_gk hk25]
  have hr26 : ra_in (ra_g σ (E0) 9) := (ra_in_g _ _ _)
  refine ra_putI rfl lk_0_50 (Nat.zero_le _) (sh_D hD) rfl rfl ?_
  refine ra_newU hr26 (fun s27 hs27 hp28 hp28o => ?_)
  have hF29 := Fr_tr (lo := D) (hi := D + 13) hF24 hs27 (by omega)
  have hk30 : s27 (E0) = σ (E0) := (hs27 (E0) (by omega)).trans hk25
  refine ra_load rfl rfl rfl rfl ?_
  refine ra_load rfl rfl rfl rfl ?_
  refine ra_getI rfl lk_0_53 (Nat.zero_le _) (sh_D hE0) rfl ?_
  rw [ra_gk hk30]
  have hr31 : ra_in (ra_g σ (E0) 10) := (ra_in_g _ _ _)
  refine ra_putI rfl lk_0_53 (Nat.zero_le _) (sh_D hD) rfl rfl ?_
  refine ra_newU hr31 (fun s32 hs32 hp33 hp33o => ?_)
  have hF34 := Fr_tr (lo := D) (hi := D + 13) hF29 hs32 (by omega)
  have hk35 : s32 (E0) = σ (E0) := (hs32 (E0) (by omega)).trans hk30
  refine ra_load rfl rfl rfl rfl ?_
  refine ra_load rfl rfl rfl rfl ?_
  refine ra_getI rfl lk_0_56 (Nat.zero_le _) (sh_D hE0) rfl ?_
  rw [ra_gk hk35]
  have hr36 : ra_in (ra_g σ (E0) 11) := (ra_in_g _ _ _)
  refine ra_putI rfl lk_0_56 (Nat.zero_le _) (sh_D hD) rfl rfl ?_
  refine ra_newU hr36 (fun s37 hs37 hp38 hp38o => ?_)
  have hF39 := Fr_tr (lo := D) (hi := D + 13) hF34 hs37 (by omega)
  have hk40 : s37 (E0) = σ (E0) := (hs37 (E0) (by omega)).trans hk35
  refine ra_load rfl rfl rfl rfl ?_
  refine ra_load rfl rfl rfl rfl ?_
  refine ra_getI rfl lk_0_59 (Nat.zero_le _) (sh_D hE0) rfl ?_
  rw [ra_gk hk40]
  have hr41 : ra_in (ra_g σ (E0) 12) := (ra_in_g _ _ _)
  refine ra_putI rfl lk_0_59 (Nat.zero_le _) (sh_D hD) rfl rfl ?_
  refine ra_newU hr41 (fun s42 hs42 hp43 hp43o => ?_)
  have hF44 := Fr_tr (lo := D) (hi := D + 13) hF39 hs42 (by omega)
  have hk45 : s42 (E0) = σ (E0) := (hs42 (E0) (by omega)).trans hk40
  refine ra_load rfl rfl rfl rfl ?_
  refine ra_getR rfl lk_0_24 (Nat.zero_le _) (sh_D hD) rfl ?_
  refine ra_load rfl rfl rfl rfl ?_
  refine ra_getR rfl lk_0_24 (Nat.zero_le _) (sh_D hE0) rfl ?_
  refine ra_cV (s5_66 hD hE0 (by first | assumption | rfl | omega)) rfl (ct_66 rfl lk_0_68 (Or.inl rfl) (sh_D3 hD) (Nat.le_of_ble_eq_true rfl)) (fun s46 hs46 => ?_)
  obtain ⟨hf47, he48⟩ := hs46
  have hF49 := Fr_tr (lo := D) (hi := D + 13) hF44 hf47 (by omega)
  have hk50 : s46 (E0) = σ (E0) := (hf47 (E0) (by omega)).trans hk45
  refine ra_iconst rfl ?_
  refine ra_store (L' := [_, _, _]) rfl rfl rfl (Nat.le_of_ble_eq_true rfl) rfl ?_
  exact ra_weak (by repeat' constructor) (l5_2_85 hD hE0 hDE _ (0) s46 (by first | omega | (unfold ra_in at *; omega)) (by first | omega | (unfold ra_in at *; omega)) hF49 (fun j j1 j2 => (fun q => q.elim (fun e => by subst e; exact ((ra_gk (hf47 (D) (by omega))).trans ((hp43o 4 (by decide)).trans ((hp38o 4 (by decide)).trans ((hp33o 4 (by decide)).trans ((hp28o 4 (by decide)).trans ((hp23o 4 (by decide)).trans ((hp18o 4 (by decide)).trans ((hp13o 4 (by decide)).trans ((hp8o 4 (by decide)).trans hp3)))))))))) (fun q => q.elim (fun e => by subst e; exact ((ra_gk (hf47 (D) (by omega))).trans ((hp43o 5 (by decide)).trans ((hp38o 5 (by decide)).trans ((hp33o 5 (by decide)).trans ((hp28o 5 (by decide)).trans ((hp23o 5 (by decide)).trans ((hp18o 5 (by decide)).trans ((hp13o 5 (by decide)).trans hp8))))))))) (fun q => q.elim (fun e => by subst e; exact ((ra_gk (hf47 (D) (by omega))).trans ((hp43o 6 (by decide)).trans ((hp38o 6 (by decide)).trans ((hp33o 6 (by decide)).trans ((hp28o 6 (by decide)).trans ((hp23o 6 (by decide)).trans ((hp18o 6 (by decide)).trans hp13)))))))) (fun q => q.elim (fun e => by subst e; exact ((ra_gk (hf47 (D) (by omega))).trans ((hp43o 7 (by decide)).trans ((hp38o 7 (by decide)).trans ((hp33o 7 (by decide)).trans ((hp28o 7 (by decide)).trans ((hp23o 7 (by decide)).trans hp18))))))) (fun q => q.elim (fun e => by subst e; exact ((ra_gk (hf47 (D) (by omega))).trans ((hp43o 8 (by decide)).trans ((hp38o 8 (by decide)).trans ((hp33o 8 (by decide)).trans ((hp28o 8 (by decide)).trans hp23)))))) (fun q => q.elim (fun e => by subst e; exact ((ra_gk (hf47 (D) (by omega))).trans ((hp43o 9 (by decide)).trans ((hp38o 9 (by decide)).trans ((hp33o 9 (by decide)).trans hp28))))) (fun q => q.elim (fun e => by subst e; exact ((ra_gk (hf47 (D) (by omega))).trans ((hp43o 10 (by decide)).trans ((hp38o 10 (by decide)).trans hp33)))) (fun q => q.elim (fun e => by subst e; exact ((ra_gk (hf47 (D) (by omega))).trans ((hp43o 11 (by decide)).trans hp38))) (fun e => by subst e; exact ((ra_gk (hf47 (D) (by omega))).trans hp43)))))))))) (show j = 4 ∨ j = 5 ∨ j = 6 ∨ j = 7 ∨ j = 8 ∨ j = 9 ∨ j = 10 ∨ j = 11 ∨ j = 12 by omega)) (fun p hp => by omega) (x5MCP_k rfl (((hs42 (E0 + 3) (by omega)).trans ((hs37 (E0 + 3) (by omega)).trans ((hs32 (E0 + 3) (by omega)).trans ((hs27 (E0 + 3) (by omega)).trans ((hs22 (E0 + 3) (by omega)).trans ((hs17 (E0 + 3) (by omega)).trans ((hs12 (E0 + 3) (by omega)).trans ((hs7 (E0 + 3) (by omega)).trans (hs2 (E0 + 3) (by omega))))))))))) he48) (fun c c1 c2 => ((hf47 c (by omega)).trans ((hs42 c (by omega)).trans ((hs37 c (by omega)).trans ((hs32 c (by omega)).trans ((hs27 c (by omega)).trans ((hs22 c (by omega)).trans ((hs17 c (by omega)).trans ((hs12 c (by omega)).trans ((hs7 c (by omega)).trans (hs2 c (by omega)))))))))))) (Nat.lt_succ_self _))
end
