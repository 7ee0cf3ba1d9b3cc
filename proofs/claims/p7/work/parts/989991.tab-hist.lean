/-! T5: what the class changes (printed by wip/gen/c6.py) -/
section
variable {τ : ra_V} {nh : Int} {R : Nat → ra_V} {qq : Nat}
theorem s5_62 {n : Nat} {f : Nat → Int32} {d : Nat} {E0 : Nat} {σ : ra_V} (hE0 : isD E0) (hq : E0 = 1) (hT : x5CT τ σ E0) (hW : x5W2 τ) (hH : x5HQ nh R σ) : ra_C (g_Gs n f) g_sh 0 (d + 3) 62 [.index (40), .index (E0)] σ (fun r9 s => rV r9 ∧ Fr (40) (172) σ s ∧ x5HQ (x5pushN nh) (x5pushR nh R τ) s) := by
  refine ra_enter (nn := 0) mt_62 rfl (Nat.le_of_ble_eq_true rfl) rfl (fun h => absurd h (by decide +kernel)) ?_
  have hc0 := hH.2.2.1
  have hk0 := hH.1
  have hn0 := hH.2.1
  refine ra_load rfl rfl rfl rfl ?_
  refine ra_load rfl rfl rfl rfl ?_
  refine ra_getI rfl lk_2_18 (Nat.zero_le _) sh_40 rfl ?_
  have hr1 : ra_in (ra_g σ (40) 1) := (ra_in_g _ _ _)
  refine ra_iconst rfl ?_
  refine ra_iadd rfl ?_
  refine ra_load rfl rfl rfl rfl ?_
  refine ra_getR rfl lk_2_11 (Nat.zero_le _) sh_40 rfl ?_
  refine ra_alen rfl sh_41 rfl ?_
  refine ra_icge rfl rfl (by first | omega | (unfold ra_in at *; omega)) (by first | omega | (unfold ra_in at *; omega)) (fun h2 => ?_) (fun h2 => ?_)
  · refine ra_iconst rfl ?_
    refine ra_putI rfl lk_2_18 (Nat.zero_le _) sh_40 rfl rfl ?_
    refine ra_newU (by first | omega | (unfold ra_in at *; omega)) (fun s3 hs3 hp4 hp4o => ?_)
    have hF5 := Fr_tr (lo := 40) (hi := 172) Fr_rf hs3 (by omega)
    refine ra_load rfl rfl rfl rfl ?_
    refine ra_getR rfl lk_2_11 (Nat.zero_le _) sh_40 rfl ?_
    refine ra_load rfl rfl rfl rfl ?_
    refine ra_getI rfl lk_2_18 (Nat.zero_le _) sh_40 rfl ?_
    rw [show (ra_g s3 (40) 1) = ((0 : Int)) from hp4]
    have hr6 : ra_in ((0 : Int)) := (by rw [← (show (ra_g s3 (40) 1) = ((0 : Int)) from hp4)]; exact ra_in_g _ _ _)
    refine ra_aaload rfl sh_41 rfl (by decide) (by first | omega | (unfold ra_in at *; omega)) (by first | omega | (unfold ra_in at *; omega)) (sh_past (by first | omega | (unfold ra_in at *; omega)) (by first | omega | (unfold ra_in at *; omega))) rfl ?_
    have hi7 : isD (42 + 13 * ((0 : Int)).toNat) := isD_h (by first | omega | (unfold ra_in at *; omega))
    refine ra_load rfl rfl rfl rfl ?_
    refine ra_cV (s5_2 hi7 hE0 (by omega)) rfl (ct_2 rfl lk_2_22 (Or.inl rfl) (sh_D hi7) (Nat.le_of_ble_eq_true rfl)) (fun s8 hs8 => ?_)
    obtain ⟨hf9, he10⟩ := hs8
    have hF11 := Fr_tr (lo := 40) (hi := 172) hF5 hf9 (by omega)
    refine ra_load rfl rfl rfl rfl ?_
    refine ra_load rfl rfl rfl rfl ?_
    refine ra_getI rfl lk_2_26 (Nat.zero_le _) sh_40 rfl ?_
    rw [show (ra_g s8 (40) 2) = (ra_g σ (40) 2) from ((ra_gk (hf9 (40) (by omega))).trans (hp4o 2 (by decide)))]
    have hr12 : ra_in (ra_g σ (40) 2) := (by rw [← (show (ra_g s8 (40) 2) = (ra_g σ (40) 2) from ((ra_gk (hf9 (40) (by omega))).trans (hp4o 2 (by decide))))]; exact ra_in_g _ _ _)
    refine ra_iconst rfl ?_
    refine ra_iadd rfl ?_
    refine ra_bipush rfl (by decide) ?_
    refine ra_min rfl lk_2_29 (by first | omega | (unfold ra_in at *; omega)) (by first | omega | (unfold ra_in at *; omega)) (Nat.le_of_ble_eq_true rfl) ?_
    refine ra_putI rfl lk_2_26 (Nat.zero_le _) sh_40 rfl rfl ?_
    refine ra_newU (by first | omega | (unfold ra_in at *; omega)) (fun s13 hs13 hp14 hp14o => ?_)
    have hF15 := Fr_tr (lo := 40) (hi := 172) hF11 hs13 (by omega)
    exact ra_return rfl rfl ⟨rfl, ⟨hF15, x5hq_push (w := (0)) hH hW (by omega) ((hp14o 1 (by decide)).trans ((ra_gk (hf9 (40) (by omega))).trans hp4)) (by have e2 := hp14; omega) (x5CT_e4 (fun c c1 c2 c3 c4 => hs13 c (by omega)) (x5ct_dc he10 (x5CT_e4 (fun c c1 c2 c3 c4 => hs3 c (by omega)) hT) hW)) (fun c c1 c2 c3 => ((hs13 c (by omega)).trans ((hf9 c (by omega)).trans (hs3 c (by omega)))))⟩⟩
  · refine ra_load rfl rfl rfl rfl ?_
    refine ra_getI rfl lk_2_18 (Nat.zero_le _) sh_40 rfl ?_
    have hr16 : ra_in (ra_g σ (40) 1) := (ra_in_g _ _ _)
    refine ra_iconst rfl ?_
    refine ra_iadd rfl ?_
    refine ra_goto rfl rfl ?_
    refine ra_putI rfl lk_2_18 (Nat.zero_le _) sh_40 rfl rfl ?_
    refine ra_newU (by first | omega | (unfold ra_in at *; omega)) (fun s17 hs17 hp18 hp18o => ?_)
    have hF19 := Fr_tr (lo := 40) (hi := 172) Fr_rf hs17 (by omega)
    refine ra_load rfl rfl rfl rfl ?_
    refine ra_getR rfl lk_2_11 (Nat.zero_le _) sh_40 rfl ?_
    refine ra_load rfl rfl rfl rfl ?_
    refine ra_getI rfl lk_2_18 (Nat.zero_le _) sh_40 rfl ?_
    rw [show (ra_g s17 (40) 1) = (((ra_g σ (40) 1) + (1))) from hp18]
    have hr20 : ra_in (((ra_g σ (40) 1) + (1))) := (by rw [← (show (ra_g s17 (40) 1) = (((ra_g σ (40) 1) + (1))) from hp18)]; exact ra_in_g _ _ _)
    refine ra_aaload rfl sh_41 rfl (by decide) (by first | omega | (unfold ra_in at *; omega)) (by first | omega | (unfold ra_in at *; omega)) (sh_past (by first | omega | (unfold ra_in at *; omega)) (by first | omega | (unfold ra_in at *; omega))) rfl ?_
    have hi21 : isD (42 + 13 * (((ra_g σ (40) 1) + (1))).toNat) := isD_h (by first | omega | (unfold ra_in at *; omega))
    refine ra_load rfl rfl rfl rfl ?_
    refine ra_cV (s5_2 hi21 hE0 (by omega)) rfl (ct_2 rfl lk_2_22 (Or.inl rfl) (sh_D hi21) (Nat.le_of_ble_eq_true rfl)) (fun s22 hs22 => ?_)
    obtain ⟨hf23, he24⟩ := hs22
    have hF25 := Fr_tr (lo := 40) (hi := 172) hF19 hf23 (by omega)
    refine ra_load rfl rfl rfl rfl ?_
    refine ra_load rfl rfl rfl rfl ?_
    refine ra_getI rfl lk_2_26 (Nat.zero_le _) sh_40 rfl ?_
    rw [show (ra_g s22 (40) 2) = (ra_g σ (40) 2) from ((ra_gk (hf23 (40) (by omega))).trans (hp18o 2 (by decide)))]
    have hr26 : ra_in (ra_g σ (40) 2) := (by rw [← (show (ra_g s22 (40) 2) = (ra_g σ (40) 2) from ((ra_gk (hf23 (40) (by omega))).trans (hp18o 2 (by decide))))]; exact ra_in_g _ _ _)
    refine ra_iconst rfl ?_
    refine ra_iadd rfl ?_
    refine ra_bipush rfl (by decide) ?_
    refine ra_min rfl lk_2_29 (by first | omega | (unfold ra_in at *; omega)) (by first | omega | (unfold ra_in at *; omega)) (Nat.le_of_ble_eq_true rfl) ?_
    refine ra_putI rfl lk_2_26 (Nat.zero_le _) sh_40 rfl rfl ?_
    refine ra_newU (by first | omega | (unfold ra_in at *; omega)) (fun s27 hs27 hp28 hp28o => ?_)
    have hF29 := Fr_tr (lo := 40) (hi := 172) hF25 hs27 (by omega)
    exact ra_return rfl rfl ⟨rfl, ⟨hF29, x5hq_push (w := ((ra_g σ (40) 1) + (1))) hH hW (by omega) ((hp28o 1 (by decide)).trans ((ra_gk (hf23 (40) (by omega))).trans hp18)) (by have e2 := hp28; omega) (x5CT_e4 (fun c c1 c2 c3 c4 => hs27 c (by omega)) (x5ct_dc he24 (x5CT_e4 (fun c c1 c2 c3 c4 => hs17 c (by omega)) hT) hW)) (fun c c1 c2 c3 => ((hs27 c (by omega)).trans ((hf23 c (by omega)).trans (hs17 c (by omega)))))⟩⟩
theorem s5_63 {n : Nat} {f : Nat → Int32} {d : Nat} {E0 : Nat} {σ : ra_V} (hE0 : isD E0) (hq : E0 = 1) (hH : x5HQ nh R σ) : ra_C (g_Gs n f) g_sh 0 (d + 3) 63 [.index (40), .index (E0)] σ (fun r9 s => (∃ z : Int, (z = 0 ∨ z = 1) ∧ (z = 1 ↔ 0 < nh) ∧ r9 = .inl (some (ra_I z))) ∧ Fr (1) (172) σ s ∧ (0 < nh → x5CT (R (nh - 1).toNat) s E0 ∧ x5HQ (nh - 1) R s) ∧ (¬ 0 < nh → s = σ) ∧ ∀ c, (c < 1 ∨ (14 ≤ c ∧ c < 40) ∨ 172 ≤ c) → s c = σ c) := by
  refine ra_enter (nn := 0) mt_63 rfl (Nat.le_of_ble_eq_true rfl) rfl (fun h => absurd h (by decide +kernel)) ?_
  have hc0 := hH.2.2.1
  have hk0 := hH.1
  have hn0 := hH.2.1
  refine ra_load rfl rfl rfl rfl ?_
  refine ra_getI rfl lk_2_26 (Nat.zero_le _) sh_40 rfl ?_
  have hr1 : ra_in (ra_g σ (40) 2) := (ra_in_g _ _ _)
  refine ra_iconst rfl ?_
  refine ra_iclt rfl rfl hr1 (by first | omega | (unfold ra_in at *; omega)) (fun h2 => ?_) (fun h2 => ?_)
  · refine ra_iconst rfl ?_
    exact ra_ireturn rfl (ra_okB (Or.inl rfl)) ⟨⟨_, (Or.inl rfl), (by constructor <;> intro q <;> omega), rfl⟩, ⟨Fr_rf, fun q => by omega, fun _ => rfl, fun _ _ => rfl⟩⟩
  · refine ra_load rfl rfl rfl rfl ?_
    refine ra_getI rfl lk_2_18 (Nat.zero_le _) sh_40 rfl ?_
    have hr3 : ra_in (ra_g σ (40) 1) := (ra_in_g _ _ _)
    refine ra_iflt rfl rfl hr3 (fun h4 => ?_) (fun h4 => ?_)
    · refine ra_iconst rfl ?_
      exact ra_ireturn rfl (ra_okB (Or.inl rfl)) ⟨⟨_, (Or.inl rfl), (by constructor <;> intro q <;> omega), rfl⟩, ⟨Fr_rf, fun q => by omega, fun _ => rfl, fun _ _ => rfl⟩⟩
    · refine ra_load rfl rfl rfl rfl ?_
      refine ra_getI rfl lk_2_18 (Nat.zero_le _) sh_40 rfl ?_
      have hr5 : ra_in (ra_g σ (40) 1) := (ra_in_g _ _ _)
      refine ra_load rfl rfl rfl rfl ?_
      refine ra_getR rfl lk_2_11 (Nat.zero_le _) sh_40 rfl ?_
      refine ra_alen rfl sh_41 rfl ?_
      refine ra_iclt rfl rfl hr5 (by first | omega | (unfold ra_in at *; omega)) (fun h6 => ?_) (fun h6 => ?_)
      · refine ra_load rfl rfl rfl rfl ?_
        refine ra_load rfl rfl rfl rfl ?_
        refine ra_getR rfl lk_2_11 (Nat.zero_le _) sh_40 rfl ?_
        refine ra_load rfl rfl rfl rfl ?_
        refine ra_getI rfl lk_2_18 (Nat.zero_le _) sh_40 rfl ?_
        have hr7 : ra_in (ra_g σ (40) 1) := (ra_in_g _ _ _)
        refine ra_aaload rfl sh_41 rfl (by decide) (by first | omega | (unfold ra_in at *; omega)) (by first | omega | (unfold ra_in at *; omega)) (sh_past (by first | omega | (unfold ra_in at *; omega)) (by first | omega | (unfold ra_in at *; omega))) rfl ?_
        have hi8 : isD (42 + 13 * (ra_g σ (40) 1).toNat) := isD_h (by first | omega | (unfold ra_in at *; omega))
        refine ra_cV (s5_2 hE0 hi8 (by omega)) rfl (ct_2 rfl lk_2_22 (Or.inl rfl) (sh_D hE0) (Nat.le_of_ble_eq_true rfl)) (fun s9 hs9 => ?_)
        obtain ⟨hf10, he11⟩ := hs9
        have hF12 := Fr_tr (lo := 1) (hi := 172) Fr_rf hf10 (by omega)
        have hk13 : s9 (40) = σ (40) := (hf10 (40) (by omega))
        refine ra_load rfl rfl rfl rfl ?_
        refine ra_load rfl rfl rfl rfl ?_
        refine ra_getI rfl lk_2_18 (Nat.zero_le _) sh_40 rfl ?_
        rw [ra_gk hk13]
        have hr14 : ra_in (ra_g σ (40) 1) := (ra_in_g _ _ _)
        refine ra_ifle rfl rfl hr14 (fun h15 => ?_) (fun h15 => ?_)
        · refine ra_load rfl rfl rfl rfl ?_
          refine ra_getR rfl lk_2_11 (Nat.zero_le _) sh_40 rfl ?_
          refine ra_alen rfl sh_41 rfl ?_
          refine ra_iconst rfl ?_
          refine ra_isub rfl ?_
          refine ra_putI rfl lk_2_18 (Nat.zero_le _) sh_40 rfl rfl ?_
          refine ra_newU (by first | omega | (unfold ra_in at *; omega)) (fun s16 hs16 hp17 hp17o => ?_)
          have hF18 := Fr_tr (lo := 1) (hi := 172) hF12 hs16 (by omega)
          refine ra_load rfl rfl rfl rfl ?_
          refine ra_dup rfl rfl ?_
          refine ra_getI rfl lk_2_26 (Nat.zero_le _) sh_40 rfl ?_
          rw [show (ra_g s16 (40) 2) = (ra_g σ (40) 2) from ((hp17o 2 (by decide)).trans (ra_gk (hf10 (40) (by omega))))]
          have hr19 : ra_in (ra_g σ (40) 2) := (by rw [← (show (ra_g s16 (40) 2) = (ra_g σ (40) 2) from ((hp17o 2 (by decide)).trans (ra_gk (hf10 (40) (by omega)))))]; exact ra_in_g _ _ _)
          refine ra_iconst rfl ?_
          refine ra_isub rfl ?_
          refine ra_putI rfl lk_2_26 (Nat.zero_le _) sh_40 rfl rfl ?_
          refine ra_newU (by first | omega | (unfold ra_in at *; omega)) (fun s20 hs20 hp21 hp21o => ?_)
          have hF22 := Fr_tr (lo := 1) (hi := 172) hF18 hs20 (by omega)
          refine ra_iconst rfl ?_
          exact ra_ireturn rfl (ra_okB (Or.inr rfl)) ⟨⟨_, (Or.inr rfl), (by constructor <;> intro q <;> omega), rfl⟩, ⟨hF22, fun q => ⟨x5CT_e4 (fun c c1 c2 c3 c4 => ((hs20 c (by omega)).trans (hs16 c (by omega)))) (x5ct_dc he11 (x5hq_last hH q).1 (x5hq_last hH q).2), x5hq_pop hH q (by have e1 := ((hp21o 1 (by decide)).trans hp17); omega) (by have e2 := hp21; omega) (fun c c1 c2 => ((hs20 c (by omega)).trans ((hs16 c (by omega)).trans (hf10 c (by omega)))))⟩, fun q => by omega, (fun c c1 => ((hs20 c (by omega)).trans ((hs16 c (by omega)).trans (hf10 c (by omega)))))⟩⟩
        · refine ra_load rfl rfl rfl rfl ?_
          refine ra_getI rfl lk_2_18 (Nat.zero_le _) sh_40 rfl ?_
          rw [ra_gk hk13]
          have hr23 : ra_in (ra_g σ (40) 1) := (ra_in_g _ _ _)
          refine ra_iconst rfl ?_
          refine ra_isub rfl ?_
          refine ra_goto rfl rfl ?_
          refine ra_putI rfl lk_2_18 (Nat.zero_le _) sh_40 rfl rfl ?_
          refine ra_newU (by first | omega | (unfold ra_in at *; omega)) (fun s24 hs24 hp25 hp25o => ?_)
          have hF26 := Fr_tr (lo := 1) (hi := 172) hF12 hs24 (by omega)
          refine ra_load rfl rfl rfl rfl ?_
          refine ra_dup rfl rfl ?_
          refine ra_getI rfl lk_2_26 (Nat.zero_le _) sh_40 rfl ?_
          rw [show (ra_g s24 (40) 2) = (ra_g σ (40) 2) from ((hp25o 2 (by decide)).trans (ra_gk (hf10 (40) (by omega))))]
          have hr27 : ra_in (ra_g σ (40) 2) := (by rw [← (show (ra_g s24 (40) 2) = (ra_g σ (40) 2) from ((hp25o 2 (by decide)).trans (ra_gk (hf10 (40) (by omega)))))]; exact ra_in_g _ _ _)
          refine ra_iconst rfl ?_
          refine ra_isub rfl ?_
          refine ra_putI rfl lk_2_26 (Nat.zero_le _) sh_40 rfl rfl ?_
          refine ra_newU (by first | omega | (unfold ra_in at *; omega)) (fun s28 hs28 hp29 hp29o => ?_)
          have hF30 := Fr_tr (lo := 1) (hi := 172) hF26 hs28 (by omega)
          refine ra_iconst rfl ?_
          exact ra_ireturn rfl (ra_okB (Or.inr rfl)) ⟨⟨_, (Or.inr rfl), (by constructor <;> intro q <;> omega), rfl⟩, ⟨hF30, fun q => ⟨x5CT_e4 (fun c c1 c2 c3 c4 => ((hs28 c (by omega)).trans (hs24 c (by omega)))) (x5ct_dc he11 (x5hq_last hH q).1 (x5hq_last hH q).2), x5hq_pop hH q (by have e1 := ((hp29o 1 (by decide)).trans hp25); omega) (by have e2 := hp29; omega) (fun c c1 c2 => ((hs28 c (by omega)).trans ((hs24 c (by omega)).trans (hf10 c (by omega)))))⟩, fun q => by omega, (fun c c1 => ((hs28 c (by omega)).trans ((hs24 c (by omega)).trans (hf10 c (by omega)))))⟩⟩
      · refine ra_iconst rfl ?_
        exact ra_ireturn rfl (ra_okB (Or.inl rfl)) ⟨⟨_, (Or.inl rfl), (by constructor <;> intro q <;> omega), rfl⟩, ⟨Fr_rf, fun q => by omega, fun _ => rfl, fun _ _ => rfl⟩⟩
theorem s5_64 {n : Nat} {f : Nat → Int32} {d : Nat}  {σ : ra_V} (hH : x5HQ nh R σ) : ra_C (g_Gs n f) g_sh 0 (d + 1) 64 [.index (40)] σ (fun r9 s => rV r9 ∧ Fr (40) (41) σ s ∧ ∀ R2, x5HQ 0 R2 s) := by
  refine ra_enter (nn := 0) mt_64 rfl (Nat.le_of_ble_eq_true rfl) rfl (fun h => absurd h (by decide +kernel)) ?_
  refine ra_load rfl rfl rfl rfl ?_
  refine ra_iconst rfl ?_
  refine ra_putI rfl lk_2_26 (Nat.zero_le _) sh_40 rfl rfl ?_
  refine ra_newU (by first | omega | (unfold ra_in at *; omega)) (fun s1 hs1 hp2 hp2o => ?_)
  have hF3 := Fr_tr (lo := 40) (hi := 41) Fr_rf hs1 (by omega)
  exact ra_return rfl rfl ⟨rfl, ⟨hF3, fun R2 => x5hq_0 hH (hp2o 1 (by decide)) hp2⟩⟩
end
