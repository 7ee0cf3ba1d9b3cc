/-! T5: what the class answers (printed by wip/gen/c5.py) -/
section
variable {τ : ra_V}
theorem s5_3 {n : Nat} {f : Nat → Int32} {d : Nat} {D : Nat} {x0 : Int} {σ : ra_V} (hD : isD D) (hx0 : ra_in x0) (hT : x5CT τ σ D) : ra_C (g_Gs n f) g_sh 0 (d + 2) 3 [.index (D), ra_I x0] σ (fun r9 s => ((r9 = .inl (some .null) ∧ (¬ (0 ≤ x0 ∧ x0 < 8 ∧ wq τ x0 0 = 1))) ∨ ∃ q9 : Nat, q9 < 8 ∧ ((q9 : Int) = x0 ∧ wq τ x0 0 = 1) ∧ r9 = .inl (some (.index (D + 5 + q9)))) ∧ s = σ) := by
  refine ra_enter (nn := 0) mt_3 rfl (Nat.le_of_ble_eq_true rfl) rfl (fun h => absurd h (by decide +kernel)) ?_
  have hee : 0 ≤ x0 → x0 < 8 → (0 < ra_g σ (D + 5 + x0.toNat) 2 ↔ wq τ x0 0 = 1) := fun a b => x5CT_ei hT a b
  refine ra_load rfl rfl rfl rfl ?_
  refine ra_iflt rfl rfl hx0 (fun h1 => ?_) (fun h1 => ?_)
  · refine ra_null rfl ?_
    exact ra_areturn rfl rfl ⟨Or.inl ⟨rfl, (by omega)⟩, rfl⟩
  · refine ra_load rfl rfl rfl rfl ?_
    refine ra_load rfl rfl rfl rfl ?_
    refine ra_getR rfl lk_0_17 (Nat.zero_le _) (sh_D hD) rfl ?_
    refine ra_alen rfl (sh_D2 hD) rfl ?_
    refine ra_icge rfl rfl hx0 (by first | omega | (unfold ra_in at *; omega)) (fun h2 => ?_) (fun h2 => ?_)
    · refine ra_null rfl ?_
      exact ra_areturn rfl rfl ⟨Or.inl ⟨rfl, (by omega)⟩, rfl⟩
    · refine ra_load rfl rfl rfl rfl ?_
      refine ra_getR rfl lk_0_17 (Nat.zero_le _) (sh_D hD) rfl ?_
      refine ra_load rfl rfl rfl rfl ?_
      refine ra_aaload rfl (sh_D2 hD) rfl (by decide) (by first | omega | (unfold ra_in at *; omega)) (by first | omega | (unfold ra_in at *; omega)) (sh_pt (by first | omega | (unfold ra_in at *; omega)) (by first | omega | (unfold ra_in at *; omega))) rfl ?_
      have hi3 : x0.toNat < 8 := (by first | omega | (unfold ra_in at *; omega))
      refine ra_cTp (s4_92 hD hi3) rfl (ct_92 rfl lk_0_81 (Or.inl rfl) (sh_P hD hi3) (Nat.le_of_ble_eq_true rfl)) ?_
      refine ra_ifneB rfl rfl (fun h5 => ?_) (fun h5 => ?_)
      · refine ra_load rfl rfl rfl rfl ?_
        refine ra_getR rfl lk_0_17 (Nat.zero_le _) (sh_D hD) rfl ?_
        refine ra_load rfl rfl rfl rfl ?_
        refine ra_aaload rfl (sh_D2 hD) rfl (by decide) (by first | omega | (unfold ra_in at *; omega)) (by first | omega | (unfold ra_in at *; omega)) (sh_pt (by first | omega | (unfold ra_in at *; omega)) (by first | omega | (unfold ra_in at *; omega))) rfl ?_
        have hi6 : x0.toNat < 8 := (by first | omega | (unfold ra_in at *; omega))
        exact ra_areturn rfl rfl ⟨Or.inr ⟨_, hi6, ⟨by omega, by omega⟩, rfl⟩, rfl⟩
      · refine ra_null rfl ?_
        exact ra_areturn rfl rfl ⟨Or.inl ⟨rfl, (by omega)⟩, rfl⟩
theorem l5_6_14 {n : Nat} {f : Nat → Int32} {d : Nat} {D : Nat} {x0 : Int} {σ : ra_V} (hD : isD D) (hx0 : ra_in x0) (hT : x5CT τ σ D) (hW : x5W2 τ) : ∀ (nn : Nat) (t2 : Jvm.Term) (v5 : Int) (ht2 : (t2 = .null ∧ (NB τ x0 v5 (-1))) ∨ ∃ i : Nat, i < 8 ∧ (NB τ x0 v5 i) ∧ t2 = .index (D + 5 + i)) (hv5_0 : 0 ≤ v5) (hv5_1 : v5 ≤ 8) (hm : ((8 - v5 : Int)).toNat < nn), ra_P (g_Gs n f) g_sh 0 (d + 1) g_m_X0_nextBehind 14 [none, some (ra_I x0), some (t2), some (.index (D + 2)), some (ra_I ((8 : Nat) : Int)), some (ra_I v5), none] [] σ (fun r9 s => ((r9 = .inl (some .null) ∧ (NB τ x0 8 (-1))) ∨ ∃ q9 : Nat, q9 < 8 ∧ (NB τ x0 8 q9) ∧ r9 = .inl (some (.index (D + 5 + q9)))) ∧ s = σ) := by
  intro nn
  induction nn with
  | zero => intro t2 v5 ht2 hv5_0 hv5_1 hm; exact absurd hm (Nat.not_lt_zero _)
  | succ nn ih =>
    intro t2 v5 ht2 hv5_0 hv5_1 hm
    have hee : v5 < 8 → (0 < ra_g σ (D + 5 + v5.toNat) 2 ↔ wq τ v5 0 = 1) := fun q => x5CT_ei hT hv5_0 q
    have hpp : v5 < 8 → wq τ v5 0 = 1 → ra_g σ (D + 5 + v5.toNat) 1 = wq τ v5 1 := fun q q2 => (x5CT_pi hT hv5_0 q q2).1
    have ev : ((v5.toNat : Nat) : Int) = v5 := by omega
    rcases ht2 with ⟨rfl, ht2n⟩ | ⟨p2, hp2, ht2b, rfl⟩
    · refine ra_load rfl rfl rfl rfl ?_
      refine ra_load rfl rfl rfl rfl ?_
      refine ra_icge rfl rfl (by first | omega | (unfold ra_in at *; omega)) (by first | omega | (unfold ra_in at *; omega)) (fun h1 => ?_) (fun h1 => ?_)
      · refine ra_load rfl rfl rfl rfl ?_
        exact ra_areturn rfl rfl ⟨Or.inl ⟨rfl, (by obtain rfl : v5 = 8 := (by omega); exact ht2n)⟩, rfl⟩
      · refine ra_load rfl rfl rfl rfl ?_
        refine ra_load rfl rfl rfl rfl ?_
        refine ra_aaload rfl (sh_D2 hD) rfl (by decide) (by first | omega | (unfold ra_in at *; omega)) (by first | omega | (unfold ra_in at *; omega)) (sh_pt (by first | omega | (unfold ra_in at *; omega)) (by first | omega | (unfold ra_in at *; omega))) rfl ?_
        have hi2 : v5.toNat < 8 := (by first | omega | (unfold ra_in at *; omega))
        refine ra_store (L' := [_, _, _, _, _, _, _]) rfl rfl rfl (Nat.le_of_ble_eq_true rfl) rfl ?_
        refine ra_load rfl rfl rfl rfl ?_
        refine ra_cTp (s4_92 hD hi2) rfl (ct_92 rfl lk_0_81 (Or.inl rfl) (sh_P hD hi2) (Nat.le_of_ble_eq_true rfl)) ?_
        refine ra_ifeqB rfl rfl (fun h4 => ?_) (fun h4 => ?_)
        · refine ra_iinc (L' := [_, _, _, _, _, _, _]) rfl rfl (Nat.le_of_ble_eq_true rfl) rfl ?_
          refine ra_goto rfl rfl ?_
          exact ra_weak (by repeat' constructor) (ih _ (v5 + 1) (Or.inl ⟨rfl, (nb_n ht2n hv5_0 (by omega))⟩) (by first | omega | (unfold ra_in at *; omega)) (by first | omega | (unfold ra_in at *; omega)) (by first | omega | (unfold ra_in at *; omega)))
        · refine ra_load rfl rfl rfl rfl ?_
          refine ra_getI rfl lk_0_85 (Nat.zero_le _) (sh_P hD hi2) rfl ?_
          have hr5 : ra_in (ra_g σ (D + 5 + v5.toNat) 1) := (ra_in_g _ _ _)
          refine ra_load rfl rfl rfl rfl ?_
          refine ra_icle rfl rfl hr5 hx0 (fun h6 => ?_) (fun h6 => ?_)
          · refine ra_iinc (L' := [_, _, _, _, _, _, _]) rfl rfl (Nat.le_of_ble_eq_true rfl) rfl ?_
            refine ra_goto rfl rfl ?_
            exact ra_weak (by repeat' constructor) (ih _ (v5 + 1) (Or.inl ⟨rfl, (nb_n ht2n hv5_0 (by omega))⟩) (by first | omega | (unfold ra_in at *; omega)) (by first | omega | (unfold ra_in at *; omega)) (by first | omega | (unfold ra_in at *; omega)))
          · refine ra_load rfl rfl rfl rfl ?_
            refine ra_nullT rfl rfl ?_
            refine ra_load rfl rfl rfl rfl ?_
            refine ra_store (L' := [_, _, _, _, _, _, _]) rfl rfl rfl (Nat.le_of_ble_eq_true rfl) rfl ?_
            refine ra_iinc (L' := [_, _, _, _, _, _, _]) rfl rfl (Nat.le_of_ble_eq_true rfl) rfl ?_
            refine ra_goto rfl rfl ?_
            exact ra_weak (by repeat' constructor) (ih _ (v5 + 1) (Or.inr ⟨_, hi2, (by rw [ev]; first | exact nb_y ht2n hv5_0 (by omega) (by omega) (by omega) | exact nb_y ht2b hv5_0 (by omega) (by omega) (by omega)), rfl⟩) (by first | omega | (unfold ra_in at *; omega)) (by first | omega | (unfold ra_in at *; omega)) (by first | omega | (unfold ra_in at *; omega)))
    · have hq2 : ra_g σ (D + 5 + p2) 1 = wq τ p2 1 := (x5CT_p hT hp2 ((ht2b.1.resolve_left (by omega)).2.2.1)).1
      refine ra_load rfl rfl rfl rfl ?_
      refine ra_load rfl rfl rfl rfl ?_
      refine ra_icge rfl rfl (by first | omega | (unfold ra_in at *; omega)) (by first | omega | (unfold ra_in at *; omega)) (fun h7 => ?_) (fun h7 => ?_)
      · refine ra_load rfl rfl rfl rfl ?_
        exact ra_areturn rfl rfl ⟨Or.inr ⟨_, hp2, (by obtain rfl : v5 = 8 := (by omega); exact ht2b), rfl⟩, rfl⟩
      · refine ra_load rfl rfl rfl rfl ?_
        refine ra_load rfl rfl rfl rfl ?_
        refine ra_aaload rfl (sh_D2 hD) rfl (by decide) (by first | omega | (unfold ra_in at *; omega)) (by first | omega | (unfold ra_in at *; omega)) (sh_pt (by first | omega | (unfold ra_in at *; omega)) (by first | omega | (unfold ra_in at *; omega))) rfl ?_
        have hi8 : v5.toNat < 8 := (by first | omega | (unfold ra_in at *; omega))
        refine ra_store (L' := [_, _, _, _, _, _, _]) rfl rfl rfl (Nat.le_of_ble_eq_true rfl) rfl ?_
        refine ra_load rfl rfl rfl rfl ?_
        refine ra_cTp (s4_92 hD hi8) rfl (ct_92 rfl lk_0_81 (Or.inl rfl) (sh_P hD hi8) (Nat.le_of_ble_eq_true rfl)) ?_
        refine ra_ifeqB rfl rfl (fun h10 => ?_) (fun h10 => ?_)
        · refine ra_iinc (L' := [_, _, _, _, _, _, _]) rfl rfl (Nat.le_of_ble_eq_true rfl) rfl ?_
          refine ra_goto rfl rfl ?_
          exact ra_weak (by repeat' constructor) (ih _ (v5 + 1) (Or.inr ⟨_, hp2, (by first | exact nb_n ht2b hv5_0 (by omega) | exact nb_k ht2b hv5_0 (by omega) (by omega)), rfl⟩) (by first | omega | (unfold ra_in at *; omega)) (by first | omega | (unfold ra_in at *; omega)) (by first | omega | (unfold ra_in at *; omega)))
        · refine ra_load rfl rfl rfl rfl ?_
          refine ra_getI rfl lk_0_85 (Nat.zero_le _) (sh_P hD hi8) rfl ?_
          have hr11 : ra_in (ra_g σ (D + 5 + v5.toNat) 1) := (ra_in_g _ _ _)
          refine ra_load rfl rfl rfl rfl ?_
          refine ra_icle rfl rfl hr11 hx0 (fun h12 => ?_) (fun h12 => ?_)
          · refine ra_iinc (L' := [_, _, _, _, _, _, _]) rfl rfl (Nat.le_of_ble_eq_true rfl) rfl ?_
            refine ra_goto rfl rfl ?_
            exact ra_weak (by repeat' constructor) (ih _ (v5 + 1) (Or.inr ⟨_, hp2, (by first | exact nb_n ht2b hv5_0 (by omega) | exact nb_k ht2b hv5_0 (by omega) (by omega)), rfl⟩) (by first | omega | (unfold ra_in at *; omega)) (by first | omega | (unfold ra_in at *; omega)) (by first | omega | (unfold ra_in at *; omega)))
          · refine ra_load rfl rfl rfl rfl ?_
            refine ra_nullF rfl rfl ?_
            refine ra_load rfl rfl rfl rfl ?_
            refine ra_getI rfl lk_0_85 (Nat.zero_le _) (sh_P hD hi8) rfl ?_
            have hr13 : ra_in (ra_g σ (D + 5 + v5.toNat) 1) := (ra_in_g _ _ _)
            refine ra_load rfl rfl rfl rfl ?_
            refine ra_getI rfl lk_0_85 (Nat.zero_le _) (sh_P hD hp2) rfl ?_
            have hr14 : ra_in (ra_g σ (D + 5 + p2) 1) := (ra_in_g _ _ _)
            refine ra_icge rfl rfl hr13 hr14 (fun h15 => ?_) (fun h15 => ?_)
            · refine ra_iinc (L' := [_, _, _, _, _, _, _]) rfl rfl (Nat.le_of_ble_eq_true rfl) rfl ?_
              refine ra_goto rfl rfl ?_
              exact ra_weak (by repeat' constructor) (ih _ (v5 + 1) (Or.inr ⟨_, hp2, (by first | exact nb_n ht2b hv5_0 (by omega) | exact nb_k ht2b hv5_0 (by omega) (by omega)), rfl⟩) (by first | omega | (unfold ra_in at *; omega)) (by first | omega | (unfold ra_in at *; omega)) (by first | omega | (unfold ra_in at *; omega)))
            · refine ra_load rfl rfl rfl rfl ?_
              refine ra_store (L' := [_, _, _, _, _, _, _]) rfl rfl rfl (Nat.le_of_ble_eq_true rfl) rfl ?_
              refine ra_iinc (L' := [_, _, _, _, _, _, _]) rfl rfl (Nat.le_of_ble_eq_true rfl) rfl ?_
              refine ra_goto rfl rfl ?_
              exact ra_weak (by repeat' constructor) (ih _ (v5 + 1) (Or.inr ⟨_, hi8, (by rw [ev]; first | exact nb_y ht2n hv5_0 (by omega) (by omega) (by omega) | exact nb_y ht2b hv5_0 (by omega) (by omega) (by omega)), rfl⟩) (by first | omega | (unfold ra_in at *; omega)) (by first | omega | (unfold ra_in at *; omega)) (by first | omega | (unfold ra_in at *; omega)))
theorem s5_6 {n : Nat} {f : Nat → Int32} {d : Nat} {D : Nat} {x0 : Int} {σ : ra_V} (hD : isD D) (hx0 : ra_in x0) (hT : x5CT τ σ D) (hW : x5W2 τ) : ra_C (g_Gs n f) g_sh 0 (d + 2) 6 [.index (D), ra_I x0] σ (fun r9 s => ((r9 = .inl (some .null) ∧ (NB τ x0 8 (-1))) ∨ ∃ q9 : Nat, q9 < 8 ∧ (NB τ x0 8 q9) ∧ r9 = .inl (some (.index (D + 5 + q9)))) ∧ s = σ) := by
  refine ra_enter (nn := 5) mt_6 rfl (Nat.le_of_ble_eq_true rfl) rfl (fun h => absurd h (by decide +kernel)) ?_
  refine ra_null rfl ?_
  refine ra_store (L' := [_, _, _, _, _, _, _]) rfl rfl rfl (Nat.le_of_ble_eq_true rfl) rfl ?_
  refine ra_load rfl rfl rfl rfl ?_
  refine ra_getR rfl lk_0_17 (Nat.zero_le _) (sh_D hD) rfl ?_
  refine ra_store (L' := [_, _, _, _, _, _, _]) rfl rfl rfl (Nat.le_of_ble_eq_true rfl) rfl ?_
  refine ra_load rfl rfl rfl rfl ?_
  refine ra_alen rfl (sh_D2 hD) rfl ?_
  refine ra_store (L' := [_, _, _, _, _, _, _]) rfl rfl rfl (Nat.le_of_ble_eq_true rfl) rfl ?_
  refine ra_iconst rfl ?_
  refine ra_store (L' := [_, _, _, _, _, _, _]) rfl rfl rfl (Nat.le_of_ble_eq_true rfl) rfl ?_
  exact ra_weak (by repeat' constructor) (l5_6_14 hD hx0 hT hW _ _ (0) (Or.inl ⟨rfl, nb_0⟩) (by first | omega | (unfold ra_in at *; omega)) (by first | omega | (unfold ra_in at *; omega)) (Nat.lt_succ_self _))
theorem l5_22_14 {n : Nat} {f : Nat → Int32} {d : Nat} {D : Nat} {i0 : Nat} {x1 : Int} {x2 : Int} {x3 : Int} {σ : ra_V} (hD : isD D) (hi0 : i0 < 8) (hx1 : ra_in x1) (hx2 : ra_in x2) (hx3 : ra_in x3) (hT : x5CT τ σ D) (hW : x5W2 τ) (he : wq τ i0 0 = 1) (hx : 0 ≤ x1 ∧ x1 ≤ 600 ∧ 1 ≤ x3) : ∀ (nn : Nat) (v7 : Int) (hv7_0 : 0 ≤ v7) (hv7_1 : v7 ≤ 8) (hv7_2 : ∀ j : Nat, (j : Int) < v7 → ¬ x4MT σ D x2 x3 j) (hm : ((8 - v7 : Int)).toNat < nn), ra_P (g_Gs n f) g_sh 0 (d + 1) g_m_X0_startInTheWay 14 [none, some (.index (D + 5 + i0)), some (ra_I x1), some (ra_I x2), some (ra_I x3), some (.index (D + 2)), some (ra_I ((8 : Nat) : Int)), some (ra_I v7), none] [] σ (fun r9 s => (∃ z, ra_in z ∧ (x5SIW τ i0 x1 x2 x3 z) ∧ r9 = .inl (some (ra_I z))) ∧ s = σ) := by
  intro nn
  induction nn with
  | zero => intro v7 hv7_0 hv7_1 hv7_2 hm; exact absurd hm (Nat.not_lt_zero _)
  | succ nn ih =>
    intro v7 hv7_0 hv7_1 hv7_2 hm
    have hp := x5CT_p hT hi0 he
    have hpw := WF_p hW.1 (p := (i0 : Int)) (by omega) (by omega) he
    refine ra_load rfl rfl rfl rfl ?_
    refine ra_load rfl rfl rfl rfl ?_
    refine ra_icge rfl rfl (by first | omega | (unfold ra_in at *; omega)) (by first | omega | (unfold ra_in at *; omega)) (fun h1 => ?_) (fun h1 => ?_)
    · refine ra_load rfl rfl rfl rfl ?_
      refine ra_i2l rfl hx1 ?_
      refine ra_load rfl rfl rfl rfl ?_
      refine ra_getI rfl lk_0_65 (Nat.zero_le _) (sh_P hD hi0) rfl ?_
      rw [show (ra_g σ (D + 5 + i0) 2) = wq τ i0 2 from hp.2.1]
      have hr2 : ra_in (wq τ i0 2) := (ra_in_wq _ _ _)
      refine ra_i2l rfl hr2 ?_
      refine ra_load rfl rfl rfl rfl ?_
      refine ra_i2l rfl hx2 ?_
      refine ra_load rfl rfl rfl rfl ?_
      refine ra_i2l rfl hx3 ?_
      refine ra_cTp (s5_185 hx1 hr2 hx2 hx3) rfl (ct_185 rfl lk_0_172 (Or.inr ⟨rfl, rfl⟩) (Nat.le_of_ble_eq_true rfl)) ?_
      refine ra_ifeqB rfl rfl (fun h4 => ?_) (fun h4 => ?_)
      · refine ra_iconst rfl ?_
        exact ra_ireturn rfl rfl ⟨⟨_, (by first | omega | (unfold ra_in at *; omega)), (Or.inl ⟨rfl, fun q => absurd ((x5tk_q hT).mp q) (fun ⟨j, j0, j1⟩ => hv7_2 j (by omega) j1), by omega⟩), rfl⟩, rfl⟩
      · refine ra_load rfl rfl rfl rfl ?_
        refine ra_goto rfl rfl ?_
        exact ra_ireturn rfl rfl ⟨⟨_, hx1, (x5siw_t (by omega) (by omega) (by omega) (by omega)), rfl⟩, rfl⟩
    · refine ra_load rfl rfl rfl rfl ?_
      refine ra_load rfl rfl rfl rfl ?_
      refine ra_aaload rfl (sh_D2 hD) rfl (by decide) (by first | omega | (unfold ra_in at *; omega)) (by first | omega | (unfold ra_in at *; omega)) (sh_pt (by first | omega | (unfold ra_in at *; omega)) (by first | omega | (unfold ra_in at *; omega))) rfl ?_
      have hi5 : v7.toNat < 8 := (by first | omega | (unfold ra_in at *; omega))
      refine ra_store (L' := [_, _, _, _, _, _, _, _, _]) rfl rfl rfl (Nat.le_of_ble_eq_true rfl) rfl ?_
      refine ra_load rfl rfl rfl rfl ?_
      refine ra_load rfl rfl rfl rfl ?_
      refine ra_i2l rfl hx2 ?_
      refine ra_load rfl rfl rfl rfl ?_
      refine ra_i2l rfl hx3 ?_
      refine ra_cTp (s4_95 hD hi5 hx2 hx3 (x5CT_bd hT hW.1 v7.toNat (by omega))) rfl (ct_95 rfl lk_0_106 (Or.inl rfl) (sh_P hD hi5) (Nat.le_of_ble_eq_true rfl)) ?_
      refine ra_ifeqB rfl rfl (fun h7 => ?_) (fun h7 => ?_)
      · refine ra_iinc (L' := [_, _, _, _, _, _, _, _, _]) rfl rfl (Nat.le_of_ble_eq_true rfl) rfl ?_
        refine ra_goto rfl rfl ?_
        exact ra_weak (by repeat' constructor) (ih (v7 + 1) (by first | omega | (unfold ra_in at *; omega)) (by first | omega | (unfold ra_in at *; omega)) (fun j hj => if e : j = v7.toNat then (by rw [e]; first | assumption | (show ¬ x4MT σ D x2 x3 v7.toNat; assumption)) else hv7_2 j (by omega)) (by first | omega | (unfold ra_in at *; omega)))
      · refine ra_load rfl rfl rfl rfl ?_
        refine ra_getI rfl lk_0_85 (Nat.zero_le _) (sh_P hD hi5) rfl ?_
        have hr8 : ra_in (ra_g σ (D + 5 + v7.toNat) 1) := (ra_in_g _ _ _)
        exact ra_ireturn rfl rfl ⟨⟨_, hr8, (x5siw_p hT hW hv7_0 (by omega) (by first | assumption | (show x4MT σ D x2 x3 v7.toNat; assumption))), rfl⟩, rfl⟩
theorem s5_22 {n : Nat} {f : Nat → Int32} {d : Nat} {D : Nat} {i0 : Nat} {x1 : Int} {x2 : Int} {x3 : Int} {σ : ra_V} (hD : isD D) (hi0 : i0 < 8) (hx1 : ra_in x1) (hx2 : ra_in x2) (hx3 : ra_in x3) (hT : x5CT τ σ D) (hW : x5W2 τ) (he : wq τ i0 0 = 1) (hx : 0 ≤ x1 ∧ x1 ≤ 600 ∧ 1 ≤ x3) : ra_C (g_Gs n f) g_sh 0 (d + 2) 22 [.index (D), .index (D + 5 + i0), ra_I x1, ra_I x2, ra_I x3] σ (fun r9 s => (∃ z, ra_in z ∧ (x5SIW τ i0 x1 x2 x3 z) ∧ r9 = .inl (some (ra_I z))) ∧ s = σ) := by
  refine ra_enter (nn := 4) mt_22 rfl (Nat.le_of_ble_eq_true rfl) rfl (fun h => absurd h (by decide +kernel)) ?_
  have hp := x5CT_p hT hi0 he
  have hpw := WF_p hW.1 (p := (i0 : Int)) (by omega) (by omega) he
  refine ra_load rfl rfl rfl rfl ?_
  refine ra_getR rfl lk_0_17 (Nat.zero_le _) (sh_D hD) rfl ?_
  refine ra_store (L' := [_, _, _, _, _, _, _, _, _]) rfl rfl rfl (Nat.le_of_ble_eq_true rfl) rfl ?_
  refine ra_load rfl rfl rfl rfl ?_
  refine ra_alen rfl (sh_D2 hD) rfl ?_
  refine ra_store (L' := [_, _, _, _, _, _, _, _, _]) rfl rfl rfl (Nat.le_of_ble_eq_true rfl) rfl ?_
  refine ra_iconst rfl ?_
  refine ra_store (L' := [_, _, _, _, _, _, _, _, _]) rfl rfl rfl (Nat.le_of_ble_eq_true rfl) rfl ?_
  exact ra_weak (by repeat' constructor) (l5_22_14 hD hi0 hx1 hx2 hx3 hT hW he hx _ (0) (by first | omega | (unfold ra_in at *; omega)) (by first | omega | (unfold ra_in at *; omega)) (fun j hj => by omega) (Nat.lt_succ_self _))
theorem l5_21_22 {n : Nat} {f : Nat → Int32} {d : Nat} {D : Nat} {i0 : Nat} {x1 : Int} {x2 : Int} {σ : ra_V} (hD : isD D) (hi0 : i0 < 8) (hx1 : ra_in x1) (hx2 : ra_in x2) (hT : x5CT τ σ D) (hW : x5W2 τ) (he : wq τ i0 0 = 1) (hx : 0 ≤ x1 ∧ x1 ≤ 600 ∧ 1 ≤ x2 ∧ x2 ≤ 16) : ∀ (nn : Nat) (v4 : Int) (v5 : Int) (v6 : Int) (hv4_0 : v4 = (min x2 (wq τ i0 2))) (hv5_0 : -100 ≤ v5 ∧ v5 ≤ 600) (hv5_1 : v5 + v6 ≤ ra_g τ 180 0 - ra_g τ 180 2 - (min x2 (wq τ i0 2))) (hv5_2 : ∀ q, v5 < q → ¬ x5RUN τ i0 x1 (min x2 (wq τ i0 2)) q) (hv6_0 : 0 ≤ v6) (hv6_1 : v6 ≤ 600) (hm : ((600 - v6 : Int)).toNat < nn), ra_P (g_Gs n f) g_sh 0 (d + 2) g_m_X0_scratchFor 22 [some (.index (D)), some (.index (D + 5 + i0)), some (ra_I x1), none, some (ra_I v4), some (ra_I v5), some (ra_I v6), none] [] σ (fun r9 s => (∃ z, ra_in z ∧ (x5SCG τ i0 x1 (min x2 (wq τ i0 2)) z) ∧ r9 = .inl (some (ra_I z))) ∧ s = σ) := by
  intro nn
  induction nn with
  | zero => intro v4 v5 v6 hv4_0 hv5_0 hv5_1 hv5_2 hv6_0 hv6_1 hm; exact absurd hm (Nat.not_lt_zero _)
  | succ nn ih =>
    intro v4 v5 v6 hv4_0 hv5_0 hv5_1 hv5_2 hv6_0 hv6_1 hm
    have hc := x5CT_s hT
    have hwa := WF_a hW.1
    unfold WFa at hwa
    have hp := x5CT_p hT hi0 he
    have hpw := WF_p hW.1 (p := (i0 : Int)) (by omega) (by omega) he
    refine ra_load rfl rfl rfl rfl ?_
    refine ra_sipush rfl (by decide) ?_
    refine ra_icge rfl rfl (by first | omega | (unfold ra_in at *; omega)) (by first | omega | (unfold ra_in at *; omega)) (fun h4 => ?_) (fun h4 => ?_)
    · refine ra_iconst rfl ?_
      exact ra_ireturn rfl rfl ⟨⟨_, (by first | omega | (unfold ra_in at *; omega)), (Or.inl ⟨rfl, fun q hq => by have hu9 := ((x5run_iff hW.1 (by omega) (by omega) (by omega)).mp hq).1; unfold US at hu9; exact absurd hq (hv5_2 q (by omega))⟩), rfl⟩, rfl⟩
    · refine ra_load rfl rfl rfl rfl ?_
      refine ra_load rfl rfl rfl rfl ?_
      refine ra_getI rfl lk_0_38 (Nat.zero_le _) (sh_D hD) rfl ?_
      rw [show (ra_g σ (D) 5) = ra_g τ 180 1 from hc.2.1]
      have hr5 : ra_in (ra_g τ 180 1) := (ra_in_g _ _ _)
      refine ra_iclt rfl rfl (by first | omega | (unfold ra_in at *; omega)) hr5 (fun h6 => ?_) (fun h6 => ?_)
      · refine ra_iconst rfl ?_
        exact ra_ireturn rfl rfl ⟨⟨_, (by first | omega | (unfold ra_in at *; omega)), (Or.inl ⟨rfl, fun q hq => by have hu9 := ((x5run_iff hW.1 (by omega) (by omega) (by omega)).mp hq).1; unfold US at hu9; exact absurd hq (hv5_2 q (by omega))⟩), rfl⟩, rfl⟩
      · refine ra_load rfl rfl rfl rfl ?_
        refine ra_load rfl rfl rfl rfl ?_
        refine ra_load rfl rfl rfl rfl ?_
        refine ra_load rfl rfl rfl rfl ?_
        refine ra_load rfl rfl rfl rfl ?_
        refine ra_cIPp (s5_22 hD hi0 hx1 (by first | omega | (unfold ra_in at *; omega)) (by first | omega | (unfold ra_in at *; omega)) (by first | assumption | rfl | omega) (by first | assumption | rfl | omega) (by first | assumption | rfl | omega) (by omega)) rfl (ct_22 rfl lk_0_168 (Or.inl rfl) (sh_D hD) (Nat.le_of_ble_eq_true rfl)) (fun z8 hz8 hz8p => ?_)
        refine ra_store (L' := [_, _, _, _, _, _, _, _]) rfl rfl rfl (Nat.le_of_ble_eq_true rfl) rfl ?_
        refine ra_load rfl rfl rfl rfl ?_
        refine ra_iconst rfl ?_
        refine ra_icne rfl rfl hz8 (by first | omega | (unfold ra_in at *; omega)) (fun h9 => ?_) (fun h9 => ?_)
        · have hsb := x5siw_b hz8p (by omega)
          refine ra_load rfl rfl rfl rfl ?_
          refine ra_load rfl rfl rfl rfl ?_
          refine ra_isub rfl ?_
          refine ra_store (L' := [_, _, _, _, _, _, _, _]) rfl rfl rfl (Nat.le_of_ble_eq_true rfl) rfl ?_
          refine ra_iinc (L' := [_, _, _, _, _, _, _, _]) rfl rfl (Nat.le_of_ble_eq_true rfl) rfl ?_
          refine ra_goto rfl rfl ?_
          exact ra_weak (by repeat' constructor) (ih v4 (z8 - v4) (v6 + 1) (by first | omega | (unfold ra_in at *; omega)) (by first | omega | (unfold ra_in at *; omega)) (by first | omega | (unfold ra_in at *; omega)) (fun q hq => by have q9 := hz8p; have hq2 := hq; rw [hv4_0] at q9 hq2; exact x5siw_s (by omega) q9 (by omega) hv5_2 q hq2) (by first | omega | (unfold ra_in at *; omega)) (by first | omega | (unfold ra_in at *; omega)) (by first | omega | (unfold ra_in at *; omega)))
        · refine ra_load rfl rfl rfl rfl ?_
          exact ra_ireturn rfl rfl ⟨⟨_, (by first | omega | (unfold ra_in at *; omega)), (by have q9 := hz8p; rw [hv4_0] at q9; exact Or.inr ⟨(x5run_iff hW.1 (by omega) (by omega) (by omega)).mpr ⟨⟨by omega, by omega, by omega⟩, x5siw_n q9 (by omega)⟩, hv5_2⟩), rfl⟩, rfl⟩
theorem s5_21 {n : Nat} {f : Nat → Int32} {d : Nat} {D : Nat} {i0 : Nat} {x1 : Int} {x2 : Int} {σ : ra_V} (hD : isD D) (hi0 : i0 < 8) (hx1 : ra_in x1) (hx2 : ra_in x2) (hT : x5CT τ σ D) (hW : x5W2 τ) (he : wq τ i0 0 = 1) (hx : 0 ≤ x1 ∧ x1 ≤ 600 ∧ 1 ≤ x2 ∧ x2 ≤ 16) : ra_C (g_Gs n f) g_sh 0 (d + 3) 21 [.index (D), .index (D + 5 + i0), ra_I x1, ra_I x2] σ (fun r9 s => (∃ z, ra_in z ∧ (x5SCG τ i0 x1 (min x2 (wq τ i0 2)) z) ∧ r9 = .inl (some (ra_I z))) ∧ s = σ) := by
  refine ra_enter (nn := 4) mt_21 rfl (Nat.le_of_ble_eq_true rfl) rfl (fun h => absurd h (by decide +kernel)) ?_
  have hc := x5CT_s hT
  have hwa := WF_a hW.1
  unfold WFa at hwa
  have hp := x5CT_p hT hi0 he
  have hpw := WF_p hW.1 (p := (i0 : Int)) (by omega) (by omega) he
  refine ra_load rfl rfl rfl rfl ?_
  refine ra_load rfl rfl rfl rfl ?_
  refine ra_getI rfl lk_0_65 (Nat.zero_le _) (sh_P hD hi0) rfl ?_
  rw [show (ra_g σ (D + 5 + i0) 2) = wq τ i0 2 from hp.2.1]
  have hr1 : ra_in (wq τ i0 2) := (ra_in_wq _ _ _)
  refine ra_min rfl lk_0_129 hx2 hr1 (Nat.le_of_ble_eq_true rfl) ?_
  refine ra_store (L' := [_, _, _, _, _, _, _, _]) rfl rfl rfl (Nat.le_of_ble_eq_true rfl) rfl ?_
  refine ra_load rfl rfl rfl rfl ?_
  refine ra_cTp (s5_9 hD (by first | assumption | rfl | omega) (by first | assumption | rfl | omega)) rfl (ct_9 rfl lk_0_102 (Or.inl rfl) (sh_D hD) (Nat.le_of_ble_eq_true rfl)) ?_
  have hr3 : ra_in (ra_g τ 180 0 - ra_g τ 180 2) := (x5ue_in (by first | assumption | rfl | omega))
  refine ra_load rfl rfl rfl rfl ?_
  refine ra_isub rfl ?_
  refine ra_store (L' := [_, _, _, _, _, _, _, _]) rfl rfl rfl (Nat.le_of_ble_eq_true rfl) rfl ?_
  refine ra_iconst rfl ?_
  refine ra_store (L' := [_, _, _, _, _, _, _, _]) rfl rfl rfl (Nat.le_of_ble_eq_true rfl) rfl ?_
  exact ra_weak (by repeat' constructor) (l5_21_22 hD hi0 hx1 hx2 hT hW he hx _ (min x2 (wq τ i0 2)) ((ra_g τ 180 0 - ra_g τ 180 2) - (min x2 (wq τ i0 2))) (0) (by first | omega | (unfold ra_in at *; omega)) (by first | omega | (unfold ra_in at *; omega)) (by first | omega | (unfold ra_in at *; omega)) (fun q hq hr => by have hu9 := ((x5run_iff hW.1 (by omega) (by omega) (by omega)).mp hr).1; unfold US at hu9; omega) (by first | omega | (unfold ra_in at *; omega)) (by first | omega | (unfold ra_in at *; omega)) (Nat.lt_succ_self _))
theorem s5_19 {n : Nat} {f : Nat → Int32} {d : Nat} {D : Nat} {i0 : Nat} {x1 : Int} {x2 : Int} {σ : ra_V} (hD : isD D) (hi0 : i0 < 8) (hx1 : ra_in x1) (hx2 : ra_in x2) (hT : x5CT τ σ D) (hW : x5W2 τ) (he : wq τ i0 0 = 1) (hch : 1 ≤ x2 ∧ x2 ≤ 16) : ra_C (g_Gs n f) g_sh 0 (d + 4) 19 [.index (D), .index (D + 5 + i0), ra_I x1, ra_I x2] σ (fun r9 s => r9 = .inl (some (ra_I (x5whyM τ i0 x1 x2))) ∧ s = σ) := by
  refine ra_enter (nn := 0) mt_19 rfl (Nat.le_of_ble_eq_true rfl) rfl (fun h => absurd h (by decide +kernel)) ?_
  have hc := x5CT_s hT
  have hwa := WF_a hW.1
  unfold WFa at hwa
  have hp := x5CT_p hT hi0 he
  have hpw := WF_p hW.1 (p := (i0 : Int)) (by omega) (by omega) he
  have hlk := hW.2.1 i0 (by omega) (by omega)
  refine ra_load rfl rfl rfl rfl ?_
  refine ra_getB rfl lk_0_94 (Nat.zero_le _) (sh_P hD hi0) rfl ?_
  refine ra_ifeqB rfl rfl (fun h1 => ?_) (fun h1 => ?_)
  · refine ra_load rfl rfl rfl rfl ?_
    refine ra_getR rfl lk_0_24 (Nat.zero_le _) (sh_D hD) rfl ?_
    refine ra_cQPp (s5_67 hD (by first | assumption | rfl | omega)) rfl (ct_67 rfl lk_0_155 (Or.inl rfl) (sh_D3 hD) (Nat.le_of_ble_eq_true rfl)) (fun z3 hz3 hz3p => ?_)
    refine ra_ifeq rfl rfl (ra_in01 hz3) (fun h4 => ?_) (fun h4 => ?_)
    · refine ra_load rfl rfl rfl rfl ?_
      refine ra_load rfl rfl rfl rfl ?_
      refine ra_getI rfl lk_0_85 (Nat.zero_le _) (sh_P hD hi0) rfl ?_
      rw [show (ra_g σ (D + 5 + i0) 1) = wq τ i0 1 from hp.1]
      have hr5 : ra_in (wq τ i0 1) := (ra_in_wq _ _ _)
      refine ra_icne rfl rfl hx1 hr5 (fun h6 => ?_) (fun h6 => ?_)
      · refine ra_load rfl rfl rfl rfl ?_
        refine ra_load rfl rfl rfl rfl ?_
        refine ra_i2l rfl hx1 ?_
        refine ra_load rfl rfl rfl rfl ?_
        refine ra_getI rfl lk_0_65 (Nat.zero_le _) (sh_P hD hi0) rfl ?_
        rw [show (ra_g σ (D + 5 + i0) 2) = wq τ i0 2 from hp.2.1]
        have hr7 : ra_in (wq τ i0 2) := (ra_in_wq _ _ _)
        refine ra_i2l rfl hr7 ?_
        refine ra_cQPp (s5_10 hD hx1 hr7 (by first | assumption | rfl | omega) (by first | assumption | rfl | omega)) rfl (ct_10 rfl lk_0_134 (Or.inl rfl) (sh_D hD) (Nat.le_of_ble_eq_true rfl)) (fun z9 hz9 hz9p => ?_)
        refine ra_ifne rfl rfl (ra_in01 hz9) (fun h10 => ?_) (fun h10 => ?_)
        · refine ra_load rfl rfl rfl rfl ?_
          refine ra_load rfl rfl rfl rfl ?_
          refine ra_cQPp (s5_11 hD hx1 (by first | assumption | rfl | omega) (by first | assumption | rfl | omega) (by have hu9 := (hz9p.mp (by omega)); unfold US at hu9; omega)) rfl (ct_11 rfl lk_0_137 (Or.inl rfl) (sh_D hD) (Nat.le_of_ble_eq_true rfl)) (fun z12 hz12 hz12p => ?_)
          refine ra_ifne rfl rfl (ra_in01 hz12) (fun h13 => ?_) (fun h13 => ?_)
          · refine ra_load rfl rfl rfl rfl ?_
            refine ra_load rfl rfl rfl rfl ?_
            refine ra_load rfl rfl rfl rfl ?_
            refine ra_load rfl rfl rfl rfl ?_
            refine ra_getI rfl lk_0_65 (Nat.zero_le _) (sh_P hD hi0) rfl ?_
            rw [show (ra_g σ (D + 5 + i0) 2) = wq τ i0 2 from hp.2.1]
            have hr14 : ra_in (wq τ i0 2) := (ra_in_wq _ _ _)
            refine ra_cIPp (s5_13 hD hi0 hx1 hr14 (by first | assumption | rfl | omega) (by first | assumption | rfl | omega)) rfl (ct_13 rfl lk_0_151 (Or.inl rfl) (sh_D hD) (Nat.le_of_ble_eq_true rfl)) (fun z16 hz16 hz16p => ?_)
            refine ra_ifeq rfl rfl hz16 (fun h17 => ?_) (fun h17 => ?_)
            · refine ra_load rfl rfl rfl rfl ?_
              refine ra_load rfl rfl rfl rfl ?_
              refine ra_load rfl rfl rfl rfl ?_
              refine ra_load rfl rfl rfl rfl ?_
              refine ra_cQPp (s5_20 hD hi0 hx1 hx2 (by first | assumption | rfl | omega) (by first | assumption | rfl | omega) (by first | assumption | rfl | omega) (by have hu9 := (hz9p.mp (by omega)); unfold US at hu9; omega)) rfl (ct_20 rfl lk_0_158 (Or.inl rfl) (sh_D hD) (Nat.le_of_ble_eq_true rfl)) (fun z19 hz19 hz19p => ?_)
              refine ra_ifeq rfl rfl (ra_in01 hz19) (fun h20 => ?_) (fun h20 => ?_)
              · refine ra_iconst rfl ?_
                exact ra_ireturn rfl rfl ⟨(congrArg (fun z => Sum.inl (some (ra_I z))) (x5whyM_0 (by omega) (by have q9 := hz3p; omega) (by omega) (hz9p.mp (by omega)) (hz12p.mp (by omega)) (fun q => absurd (hz16p.mpr q) (by omega)) (by have q9 := hz19p; omega))), rfl⟩
              · refine ra_load rfl rfl rfl rfl ?_
                refine ra_load rfl rfl rfl rfl ?_
                refine ra_load rfl rfl rfl rfl ?_
                refine ra_load rfl rfl rfl rfl ?_
                refine ra_cIPp (s5_21 hD hi0 hx1 hx2 (by first | assumption | rfl | omega) (by first | assumption | rfl | omega) (by first | assumption | rfl | omega) (by have hu9 := (hz9p.mp (by omega)); unfold US at hu9; omega)) rfl (ct_21 rfl lk_0_162 (Or.inl rfl) (sh_D hD) (Nat.le_of_ble_eq_true rfl)) (fun z22 hz22 hz22p => ?_)
                refine ra_iconst rfl ?_
                refine ra_icne rfl rfl hz22 (by first | omega | (unfold ra_in at *; omega)) (fun h23 => ?_) (fun h23 => ?_)
                · refine ra_iconst rfl ?_
                  exact ra_ireturn rfl rfl ⟨(congrArg (fun z => Sum.inl (some (ra_I z))) (x5whyM_s (by omega) (by have q9 := hz3p; omega) (by omega) (hz9p.mp (by omega)) (hz12p.mp (by omega)) (fun q => absurd (hz16p.mpr q) (by omega)) hz22p (by omega))), rfl⟩
                · refine ra_bipush rfl (by decide) ?_
                  refine ra_goto rfl rfl ?_
                  exact ra_ireturn rfl rfl ⟨(congrArg (fun z => Sum.inl (some (ra_I z))) (x5whyM_7 (by omega) (by have q9 := hz3p; omega) (by omega) (hz9p.mp (by omega)) (hz12p.mp (by omega)) (fun q => absurd (hz16p.mpr q) (by omega)) (by have q9 := hz19p; omega) (by have q9 := hz22p; rw [show z22 = -1 by omega] at q9; exact q9))), rfl⟩
            · refine ra_bipush rfl (by decide) ?_
              exact ra_ireturn rfl rfl ⟨(congrArg (fun z => Sum.inl (some (ra_I z))) (x5whyM_6 (by omega) (by have q9 := hz3p; omega) (by omega) (hz9p.mp (by omega)) (hz12p.mp (by omega)) (hz16p.mp (by omega)))), rfl⟩
          · refine ra_iconst rfl ?_
            exact ra_ireturn rfl rfl ⟨(congrArg (fun z => Sum.inl (some (ra_I z))) (x5whyM_5 (by omega) (by have q9 := hz3p; omega) (by omega) (hz9p.mp (by omega)) (fun q => absurd (hz12p.mpr q) (by omega)))), rfl⟩
        · refine ra_iconst rfl ?_
          exact ra_ireturn rfl rfl ⟨(congrArg (fun z => Sum.inl (some (ra_I z))) (x5whyM_4 (by omega) (by have q9 := hz3p; omega) (by omega) (fun q => absurd (hz9p.mpr q) (by omega)))), rfl⟩
      · refine ra_iconst rfl ?_
        exact ra_ireturn rfl rfl ⟨(congrArg (fun z => Sum.inl (some (ra_I z))) (x5whyM_3 (by omega) (by have q9 := hz3p; omega) (by omega))), rfl⟩
    · refine ra_iconst rfl ?_
      exact ra_ireturn rfl rfl ⟨(congrArg (fun z => Sum.inl (some (ra_I z))) (x5whyM_2 (by omega) (by have q9 := hz3p; omega))), rfl⟩
  · refine ra_iconst rfl ?_
    exact ra_ireturn rfl rfl ⟨(congrArg (fun z => Sum.inl (some (ra_I z))) (x5whyM_1 (by omega))), rfl⟩
theorem l5_43_5 {n : Nat} {f : Nat → Int32} {d : Nat} {D : Nat} {i0 : Nat} {σ : ra_V} (hD : isD D) (hi0 : i0 < 8) (hT : x5CT τ σ D) (hW : x5W2 τ) (he : wq τ i0 0 = 1) : ∀ (nn : Nat) (v2 : Int) (hv2_0 : ra_g τ 180 1 ≤ v2 ∧ v2 ≤ 600) (hv2_1 : ∀ k, ra_g τ 180 1 ≤ k → k < v2 → ¬ x5whyM τ i0 k (ra_g τ 180 4) = 0) (hm : ((wq τ i0 1 - v2 : Int)).toNat < nn), ra_P (g_Gs n f) g_sh 0 (d + 4) g_m_X0_leastStart 5 [some (.index (D)), some (.index (D + 5 + i0)), some (ra_I v2)] [] σ (fun r9 s => (∃ z, ra_in z ∧ (x5LST (fun k => x5whyM τ i0 k (ra_g τ 180 4) = 0) (ra_g τ 180 1) (wq τ i0 1) z) ∧ r9 = .inl (some (ra_I z))) ∧ s = σ) := by
  intro nn
  induction nn with
  | zero => intro v2 hv2_0 hv2_1 hm; exact absurd hm (Nat.not_lt_zero _)
  | succ nn ih =>
    intro v2 hv2_0 hv2_1 hm
    have hc := x5CT_s hT
    have hwa := WF_a hW.1
    unfold WFa at hwa
    have hp := x5CT_p hT hi0 he
    have hpw := WF_p hW.1 (p := (i0 : Int)) (by omega) (by omega) he
    refine ra_load rfl rfl rfl rfl ?_
    refine ra_load rfl rfl rfl rfl ?_
    refine ra_getI rfl lk_0_85 (Nat.zero_le _) (sh_P hD hi0) rfl ?_
    rw [show (ra_g σ (D + 5 + i0) 1) = wq τ i0 1 from hp.1]
    have hr2 : ra_in (wq τ i0 1) := (ra_in_wq _ _ _)
    refine ra_icge rfl rfl (by first | omega | (unfold ra_in at *; omega)) hr2 (fun h3 => ?_) (fun h3 => ?_)
    · refine ra_iconst rfl ?_
      exact ra_ireturn rfl rfl ⟨⟨_, (by first | omega | (unfold ra_in at *; omega)), (Or.inl ⟨rfl, fun k k0 k1 => hv2_1 k k0 (by omega)⟩), rfl⟩, rfl⟩
    · refine ra_load rfl rfl rfl rfl ?_
      refine ra_load rfl rfl rfl rfl ?_
      refine ra_load rfl rfl rfl rfl ?_
      refine ra_load rfl rfl rfl rfl ?_
      refine ra_getI rfl lk_0_47 (Nat.zero_le _) (sh_D hD) rfl ?_
      rw [show (ra_g σ (D) 8) = ra_g τ 180 4 from hc.2.2.2.2.1]
      have hr4 : ra_in (ra_g τ 180 4) := (ra_in_g _ _ _)
      refine ra_cTp (s5_19 hD hi0 (by first | omega | (unfold ra_in at *; omega)) hr4 (by first | assumption | rfl | omega) (by first | assumption | rfl | omega) (by first | assumption | rfl | omega) (by omega)) rfl (ct_19 rfl lk_0_233 (Or.inl rfl) (sh_D hD) (Nat.le_of_ble_eq_true rfl)) ?_
      refine ra_ifne rfl rfl x5whyM_in (fun h6 => ?_) (fun h6 => ?_)
      · refine ra_iinc (L' := [_, _, _]) rfl rfl (Nat.le_of_ble_eq_true rfl) rfl ?_
        refine ra_goto rfl rfl ?_
        exact ra_weak (by repeat' constructor) (ih (v2 + 1) (by first | omega | (unfold ra_in at *; omega)) (fun k k0 k1 => if e : k = v2 then (by rw [e]; omega) else hv2_1 k k0 (by omega)) (by first | omega | (unfold ra_in at *; omega)))
      · refine ra_load rfl rfl rfl rfl ?_
        exact ra_ireturn rfl rfl ⟨⟨_, (by first | omega | (unfold ra_in at *; omega)), (Or.inr ⟨by omega, by omega, by omega, hv2_1⟩), rfl⟩, rfl⟩
theorem s5_43 {n : Nat} {f : Nat → Int32} {d : Nat} {D : Nat} {i0 : Nat} {σ : ra_V} (hD : isD D) (hi0 : i0 < 8) (hT : x5CT τ σ D) (hW : x5W2 τ) (he : wq τ i0 0 = 1) : ra_C (g_Gs n f) g_sh 0 (d + 5) 43 [.index (D), .index (D + 5 + i0)] σ (fun r9 s => (∃ z, ra_in z ∧ (x5LST (fun k => x5whyM τ i0 k (ra_g τ 180 4) = 0) (ra_g τ 180 1) (wq τ i0 1) z) ∧ r9 = .inl (some (ra_I z))) ∧ s = σ) := by
  refine ra_enter (nn := 1) mt_43 rfl (Nat.le_of_ble_eq_true rfl) rfl (fun h => absurd h (by decide +kernel)) ?_
  have hc := x5CT_s hT
  have hwa := WF_a hW.1
  unfold WFa at hwa
  have hp := x5CT_p hT hi0 he
  have hpw := WF_p hW.1 (p := (i0 : Int)) (by omega) (by omega) he
  refine ra_load rfl rfl rfl rfl ?_
  refine ra_getI rfl lk_0_38 (Nat.zero_le _) (sh_D hD) rfl ?_
  rw [show (ra_g σ (D) 5) = ra_g τ 180 1 from hc.2.1]
  have hr1 : ra_in (ra_g τ 180 1) := (ra_in_g _ _ _)
  refine ra_store (L' := [_, _, _]) rfl rfl rfl (Nat.le_of_ble_eq_true rfl) rfl ?_
  exact ra_weak (by repeat' constructor) (l5_43_5 hD hi0 hT hW he _ (ra_g τ 180 1) (by first | omega | (unfold ra_in at *; omega)) (fun k k0 k1 => by omega) (Nat.lt_succ_self _))
theorem l5_44_10 {n : Nat} {f : Nat → Int32} {d : Nat} {D : Nat} {i0 : Nat} {σ : ra_V} (hD : isD D) (hi0 : i0 < 8) (hT : x5CT τ σ D) (hW : x5W2 τ) (he : wq τ i0 0 = 1) : ∀ (nn : Nat) (v2 : Int) (hv2_0 : -700 ≤ v2 ∧ v2 < ra_g τ 180 0 - ra_g τ 180 2 - wq τ i0 2 + 1) (hv2_1 : ∀ k, v2 < k → k < ra_g τ 180 0 - ra_g τ 180 2 - wq τ i0 2 + 1 → ¬ x5whyM τ i0 k (ra_g τ 180 4) = 0) (hm : ((v2 - wq τ i0 1 : Int)).toNat < nn), ra_P (g_Gs n f) g_sh 0 (d + 4) g_m_X0_greatestStart 10 [some (.index (D)), some (.index (D + 5 + i0)), some (ra_I v2)] [] σ (fun r9 s => (∃ z, ra_in z ∧ (x5GST (fun k => x5whyM τ i0 k (ra_g τ 180 4) = 0) (wq τ i0 1 + 1) (ra_g τ 180 0 - ra_g τ 180 2 - wq τ i0 2 + 1) z) ∧ r9 = .inl (some (ra_I z))) ∧ s = σ) := by
  intro nn
  induction nn with
  | zero => intro v2 hv2_0 hv2_1 hm; exact absurd hm (Nat.not_lt_zero _)
  | succ nn ih =>
    intro v2 hv2_0 hv2_1 hm
    have hc := x5CT_s hT
    have hwa := WF_a hW.1
    unfold WFa at hwa
    have hp := x5CT_p hT hi0 he
    have hpw := WF_p hW.1 (p := (i0 : Int)) (by omega) (by omega) he
    refine ra_load rfl rfl rfl rfl ?_
    refine ra_load rfl rfl rfl rfl ?_
    refine ra_getI rfl lk_0_85 (Nat.zero_le _) (sh_P hD hi0) rfl ?_
    rw [show (ra_g σ (D + 5 + i0) 1) = wq τ i0 1 from hp.1]
    have hr4 : ra_in (wq τ i0 1) := (ra_in_wq _ _ _)
    refine ra_icle rfl rfl (by first | omega | (unfold ra_in at *; omega)) hr4 (fun h5 => ?_) (fun h5 => ?_)
    · refine ra_iconst rfl ?_
      exact ra_ireturn rfl rfl ⟨⟨_, (by first | omega | (unfold ra_in at *; omega)), (Or.inl ⟨rfl, fun k k0 k1 => hv2_1 k (by omega) k1⟩), rfl⟩, rfl⟩
    · refine ra_load rfl rfl rfl rfl ?_
      refine ra_load rfl rfl rfl rfl ?_
      refine ra_load rfl rfl rfl rfl ?_
      refine ra_load rfl rfl rfl rfl ?_
      refine ra_getI rfl lk_0_47 (Nat.zero_le _) (sh_D hD) rfl ?_
      rw [show (ra_g σ (D) 8) = ra_g τ 180 4 from hc.2.2.2.2.1]
      have hr6 : ra_in (ra_g τ 180 4) := (ra_in_g _ _ _)
      refine ra_cTp (s5_19 hD hi0 (by first | omega | (unfold ra_in at *; omega)) hr6 (by first | assumption | rfl | omega) (by first | assumption | rfl | omega) (by first | assumption | rfl | omega) (by omega)) rfl (ct_19 rfl lk_0_233 (Or.inl rfl) (sh_D hD) (Nat.le_of_ble_eq_true rfl)) ?_
      refine ra_ifne rfl rfl x5whyM_in (fun h8 => ?_) (fun h8 => ?_)
      · refine ra_iinc (L' := [_, _, _]) rfl rfl (Nat.le_of_ble_eq_true rfl) rfl ?_
        refine ra_goto rfl rfl ?_
        exact ra_weak (by repeat' constructor) (ih (v2 + (-1)) (by first | omega | (unfold ra_in at *; omega)) (fun k k0 k1 => if e : k = v2 then (by rw [e]; omega) else hv2_1 k (by omega) k1) (by first | omega | (unfold ra_in at *; omega)))
      · refine ra_load rfl rfl rfl rfl ?_
        exact ra_ireturn rfl rfl ⟨⟨_, (by first | omega | (unfold ra_in at *; omega)), (Or.inr ⟨by omega, by omega, by omega, hv2_1⟩), rfl⟩, rfl⟩
theorem s5_44 {n : Nat} {f : Nat → Int32} {d : Nat} {D : Nat} {i0 : Nat} {σ : ra_V} (hD : isD D) (hi0 : i0 < 8) (hT : x5CT τ σ D) (hW : x5W2 τ) (he : wq τ i0 0 = 1) : ra_C (g_Gs n f) g_sh 0 (d + 5) 44 [.index (D), .index (D + 5 + i0)] σ (fun r9 s => (∃ z, ra_in z ∧ (x5GST (fun k => x5whyM τ i0 k (ra_g τ 180 4) = 0) (wq τ i0 1 + 1) (ra_g τ 180 0 - ra_g τ 180 2 - wq τ i0 2 + 1) z) ∧ r9 = .inl (some (ra_I z))) ∧ s = σ) := by
  refine ra_enter (nn := 1) mt_44 rfl (Nat.le_of_ble_eq_true rfl) rfl (fun h => absurd h (by decide +kernel)) ?_
  have hc := x5CT_s hT
  have hwa := WF_a hW.1
  unfold WFa at hwa
  have hp := x5CT_p hT hi0 he
  have hpw := WF_p hW.1 (p := (i0 : Int)) (by omega) (by omega) he
  refine ra_load rfl rfl rfl rfl ?_
  refine ra_cTp (s5_9 hD (by first | assumption | rfl | omega) (by first | assumption | rfl | omega)) rfl (ct_9 rfl lk_0_102 (Or.inl rfl) (sh_D hD) (Nat.le_of_ble_eq_true rfl)) ?_
  have hr2 : ra_in (ra_g τ 180 0 - ra_g τ 180 2) := (x5ue_in (by first | assumption | rfl | omega))
  refine ra_load rfl rfl rfl rfl ?_
  refine ra_getI rfl lk_0_65 (Nat.zero_le _) (sh_P hD hi0) rfl ?_
  rw [show (ra_g σ (D + 5 + i0) 2) = wq τ i0 2 from hp.2.1]
  have hr3 : ra_in (wq τ i0 2) := (ra_in_wq _ _ _)
  refine ra_isub rfl ?_
  refine ra_store (L' := [_, _, _]) rfl rfl rfl (Nat.le_of_ble_eq_true rfl) rfl ?_
  exact ra_weak (by repeat' constructor) (l5_44_10 hD hi0 hT hW he _ ((ra_g τ 180 0 - ra_g τ 180 2) - (wq τ i0 2)) (by first | omega | (unfold ra_in at *; omega)) (fun k k0 k1 => by omega) (Nat.lt_succ_self _))
end
