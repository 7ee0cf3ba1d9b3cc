/-! T5: the class's gaps (printed by wip/gen/c8.py) -/
section
variable {τ : ra_V} {nh : Int} {R : Nat → ra_V}
theorem s5_49 {n : Nat} {f : Nat → Int32} {d : Nat} {x0 : Int} {x1 : Int} {σ : ra_V} (hx0 : ra_in x0) (hx1 : ra_in x1) (hf : 0 ≤ ra_g σ (172) 2 ∧ ra_g σ (172) 2 ≤ 10) : ra_C (g_Gs n f) g_sh 0 (d + 1) 49 [.index (172), ra_I x0, ra_I x1] σ (fun r9 s => rV r9 ∧ Fr (172) (175) σ s ∧ x5NTE σ s x0 x1) := by
  refine ra_enter (nn := 0) mt_49 rfl (Nat.le_of_ble_eq_true rfl) rfl (fun h => absurd h (by decide +kernel)) ?_
  refine ra_load rfl rfl rfl rfl ?_
  refine ra_getI rfl lk_1_18 (Nat.zero_le _) sh_172 rfl ?_
  have hr1 : ra_in (ra_g σ (172) 2) := (ra_in_g _ _ _)
  refine ra_load rfl rfl rfl rfl ?_
  refine ra_getR rfl lk_1_11 (Nat.zero_le _) sh_172 rfl ?_
  refine ra_alen rfl sh_173 rfl ?_
  refine ra_icge rfl rfl hr1 (by first | omega | (unfold ra_in at *; omega)) (fun h2 => ?_) (fun h2 => ?_)
  · exact ra_return rfl rfl ⟨rfl, (by exfalso; omega)⟩
  · refine ra_load rfl rfl rfl rfl ?_
    refine ra_getI rfl lk_1_18 (Nat.zero_le _) sh_172 rfl ?_
    have hr3 : ra_in (ra_g σ (172) 2) := (ra_in_g _ _ _)
    refine ra_load rfl rfl rfl rfl ?_
    refine ra_getR rfl lk_1_15 (Nat.zero_le _) sh_172 rfl ?_
    refine ra_alen rfl sh_174 rfl ?_
    refine ra_icge rfl rfl hr3 (by first | omega | (unfold ra_in at *; omega)) (fun h4 => ?_) (fun h4 => ?_)
    · exact ra_return rfl rfl ⟨rfl, (by exfalso; omega)⟩
    · refine ra_load rfl rfl rfl rfl ?_
      refine ra_getR rfl lk_1_11 (Nat.zero_le _) sh_172 rfl ?_
      refine ra_load rfl rfl rfl rfl ?_
      refine ra_getI rfl lk_1_18 (Nat.zero_le _) sh_172 rfl ?_
      have hr5 : ra_in (ra_g σ (172) 2) := (ra_in_g _ _ _)
      refine ra_load rfl rfl rfl rfl ?_
      refine ra_iastore rfl sh_173 rfl (by decide) (by first | omega | (unfold ra_in at *; omega)) (by first | omega | (unfold ra_in at *; omega)) ?_
      refine ra_newR hx0 (fun s6 hs6 hs6v hs6o => ?_)
      have hF7 := Fr_tr (lo := 172) (hi := 175) Fr_rf hs6 (by omega)
      refine ra_load rfl rfl rfl rfl ?_
      refine ra_getR rfl lk_1_15 (Nat.zero_le _) sh_172 rfl ?_
      refine ra_load rfl rfl rfl rfl ?_
      refine ra_getI rfl lk_1_18 (Nat.zero_le _) sh_172 rfl ?_
      rw [show (ra_g s6 (172) 2) = (ra_g σ (172) 2) from (ra_gk (hs6 (172) (by omega)))]
      have hr8 : ra_in (ra_g σ (172) 2) := (by rw [← (show (ra_g s6 (172) 2) = (ra_g σ (172) 2) from (ra_gk (hs6 (172) (by omega))))]; exact ra_in_g _ _ _)
      refine ra_load rfl rfl rfl rfl ?_
      refine ra_iastore rfl sh_174 rfl (by decide) (by first | omega | (unfold ra_in at *; omega)) (by first | omega | (unfold ra_in at *; omega)) ?_
      refine ra_newR hx1 (fun s9 hs9 hs9v hs9o => ?_)
      have hF10 := Fr_tr (lo := 172) (hi := 175) hF7 hs9 (by omega)
      refine ra_load rfl rfl rfl rfl ?_
      refine ra_dup rfl rfl ?_
      refine ra_getI rfl lk_1_18 (Nat.zero_le _) sh_172 rfl ?_
      rw [show (ra_g s9 (172) 2) = (ra_g σ (172) 2) from ((ra_gk (hs9 (172) (by omega))).trans (ra_gk (hs6 (172) (by omega))))]
      have hr11 : ra_in (ra_g σ (172) 2) := (by rw [← (show (ra_g s9 (172) 2) = (ra_g σ (172) 2) from ((ra_gk (hs9 (172) (by omega))).trans (ra_gk (hs6 (172) (by omega)))))]; exact ra_in_g _ _ _)
      refine ra_iconst rfl ?_
      refine ra_iadd rfl ?_
      refine ra_putI rfl lk_1_18 (Nat.zero_le _) sh_172 rfl rfl ?_
      refine ra_newU (by first | omega | (unfold ra_in at *; omega)) (fun s12 hs12 hp13 hp13o => ?_)
      have hF14 := Fr_tr (lo := 172) (hi := 175) hF10 hs12 (by omega)
      exact ra_return rfl rfl ⟨rfl, ⟨hF14, show x5NTE σ s12 x0 x1 from ⟨⟨hp13, ((hp13o 3 (by decide)).trans ((ra_gk (hs9 (172) (by omega))).trans (ra_gk (hs6 (172) (by omega)))))⟩, ⟨((ra_gk (hs12 (173) (by omega))).trans ((ra_gk (hs9 (173) (by omega))).trans hs6v)), (fun j hj => ((ra_gk (hs12 (173) (by omega))).trans ((ra_gk (hs9 (173) (by omega))).trans (hs6o j hj))))⟩, ⟨((ra_gk (hs12 (174) (by omega))).trans hs9v), (fun j hj => ((ra_gk (hs12 (174) (by omega))).trans ((hs9o j hj).trans (ra_gk (hs6 (174) (by omega))))))⟩⟩⟩⟩
theorem l5_48_26 {n : Nat} {f : Nat → Int32} {d : Nat} {E0 : Nat} {σ : ra_V} (hE0 : isD E0) (hq : E0 = 1) (hT : x5CT τ σ E0) (hW : x5W2 τ) : ∀ (nn : Nat) (v2 : Int) (v3 : Int) (v4 : Int) (s : ra_V) (hv2_0 : ra_in v2) (hv2_1 : ra_g τ 180 1 + v4 ≤ v2) (hv3_0 : v3 = ra_g τ 180 0 - ra_g τ 180 2) (hv4_0 : 0 ≤ v4 ∧ v4 ≤ 600) (hF : Fr (172) (175) σ s) (hg : x5GB τ (ra_g s 172 2) (fun g => ra_g s 173 g.toNat) (fun g => ra_g s 174 g.toNat) v2) (ha3 : ra_g s 172 3 = ra_g τ 180 3) (hm : ((600 - v4 : Int)).toNat < nn), ra_P (g_Gs n f) g_sh 0 (d + 4) g_m_X1_find 26 [some (.index (172)), some (.index (E0)), some (ra_I v2), some (ra_I v3), some (ra_I v4), none] [] s (fun r9 s => rV r9 ∧ Fr (172) (175) σ s ∧ x5GFC τ s) := by
  intro nn
  induction nn with
  | zero => intro v2 v3 v4 s hv2_0 hv2_1 hv3_0 hv4_0 hF hg ha3 hm; exact absurd hm (Nat.not_lt_zero _)
  | succ nn ih =>
    intro v2 v3 v4 s hv2_0 hv2_1 hv3_0 hv4_0 hF hg ha3 hm
    have hwa := WF_a hW.1
    unfold WFa at hwa
    refine ra_load rfl rfl rfl rfl ?_
    refine ra_sipush rfl (by decide) ?_
    refine ra_icge rfl rfl (by first | omega | (unfold ra_in at *; omega)) (by first | omega | (unfold ra_in at *; omega)) (fun h13 => ?_) (fun h13 => ?_)
    · exact ra_return rfl rfl ⟨rfl, ⟨hF, x5gb_f hW.1 hg (by omega) ha3⟩⟩
    · refine ra_load rfl rfl rfl rfl ?_
      refine ra_load rfl rfl rfl rfl ?_
      refine ra_icge rfl rfl (by first | omega | (unfold ra_in at *; omega)) (by first | omega | (unfold ra_in at *; omega)) (fun h14 => ?_) (fun h14 => ?_)
      · exact ra_return rfl rfl ⟨rfl, ⟨hF, x5gb_f hW.1 hg (by omega) ha3⟩⟩
      · refine ra_load rfl rfl rfl rfl ?_
        refine ra_load rfl rfl rfl rfl ?_
        refine ra_cIPp (s5_14 hE0 (by first | omega | (unfold ra_in at *; omega)) (x5CT_e4 (fun c c1 c2 c3 c4 => hF c (by omega)) hT) (by first | assumption | rfl | omega)) rfl (ct_14 rfl lk_1_35 (Or.inl rfl) (sh_D hE0) (Nat.le_of_ble_eq_true rfl)) (fun z16 hz16 hz16p => ?_)
        refine ra_store (L' := [_, _, _, _, _, _]) rfl rfl rfl (Nat.le_of_ble_eq_true rfl) rfl ?_
        refine ra_load rfl rfl rfl rfl ?_
        refine ra_load rfl rfl rfl rfl ?_
        refine ra_icne rfl rfl hz16 (by first | omega | (unfold ra_in at *; omega)) (fun h17 => ?_) (fun h17 => ?_)
        · have hgt := x5gb_t hg hz16p (by omega) ⟨by omega, by omega⟩
          have hgt2 := hgt.2
          refine ra_load rfl rfl rfl rfl ?_
          refine ra_store (L' := [_, _, _, _, _, _]) rfl rfl rfl (Nat.le_of_ble_eq_true rfl) rfl ?_
          refine ra_iinc (L' := [_, _, _, _, _, _]) rfl rfl (Nat.le_of_ble_eq_true rfl) rfl ?_
          refine ra_goto rfl rfl ?_
          exact ra_weak (by repeat' constructor) (ih z16 v3 (v4 + 1) s hz16 (by first | omega | (unfold ra_in at *; omega)) (by first | omega | (unfold ra_in at *; omega)) (by first | omega | (unfold ra_in at *; omega)) hF (x5gb_t hg hz16p (by omega) ⟨by omega, by omega⟩).1 ha3 (by first | omega | (unfold ra_in at *; omega)))
        · refine ra_load rfl rfl rfl rfl ?_
          refine ra_load rfl rfl rfl rfl ?_
          refine ra_cIPp (s5_15 hE0 (by first | omega | (unfold ra_in at *; omega)) (x5CT_e4 (fun c c1 c2 c3 c4 => hF c (by omega)) hT) (by first | assumption | rfl | omega) (by omega)) rfl (ct_15 rfl lk_1_39 (Or.inl rfl) (sh_D hE0) (Nat.le_of_ble_eq_true rfl)) (fun z19 hz19 hz19p => ?_)
          refine ra_store (L' := [_, _, _, _, _, _]) rfl rfl rfl (Nat.le_of_ble_eq_true rfl) rfl ?_
          have hgt := x5gb_10 hW.1 hg (by have q9 := hz16p; rw [show z16 = v2 by omega] at q9; exact q9) hz19p ⟨by omega, by omega⟩
          have hg1 := hg.1
          refine ra_load rfl rfl rfl rfl ?_
          refine ra_load rfl rfl rfl rfl ?_
          refine ra_load rfl rfl rfl rfl ?_
          refine ra_load rfl rfl rfl rfl ?_
          refine ra_isub rfl ?_
          refine ra_cV (s5_49 (by first | omega | (unfold ra_in at *; omega)) (by first | omega | (unfold ra_in at *; omega)) (by omega)) rfl (ct_49 rfl lk_1_42 (Or.inl rfl) sh_172 (Nat.le_of_ble_eq_true rfl)) (fun s20 hs20 => ?_)
          obtain ⟨hf21, he22⟩ := hs20
          have hF23 := Fr_tr (lo := 172) (hi := 175) hF hf21 (by omega)
          refine ra_load rfl rfl rfl rfl ?_
          refine ra_store (L' := [_, _, _, _, _, _]) rfl rfl rfl (Nat.le_of_ble_eq_true rfl) rfl ?_
          refine ra_iinc (L' := [_, _, _, _, _, _]) rfl rfl (Nat.le_of_ble_eq_true rfl) rfl ?_
          refine ra_goto rfl rfl ?_
          exact ra_weak (by repeat' constructor) (ih z19 v3 (v4 + 1) s20 hz19 (by first | omega | (unfold ra_in at *; omega)) (by first | omega | (unfold ra_in at *; omega)) (by first | omega | (unfold ra_in at *; omega)) hF23 (x5gb_nt hW.1 hg hz16p (by omega) hz19p ⟨by omega, by omega⟩ he22) (he22.1.2.trans ha3) (by first | omega | (unfold ra_in at *; omega)))
theorem s5_48 {n : Nat} {f : Nat → Int32} {d : Nat} {E0 : Nat} {σ : ra_V} (hE0 : isD E0) (hq : E0 = 1) (hT : x5CT τ σ E0) (hW : x5W2 τ) : ra_C (g_Gs n f) g_sh 0 (d + 5) 48 [.index (172), .index (E0)] σ (fun r9 s => rV r9 ∧ Fr (172) (175) σ s ∧ x5GFC τ s) := by
  refine ra_enter (nn := 4) mt_48 rfl (Nat.le_of_ble_eq_true rfl) rfl (fun h => absurd h (by decide +kernel)) ?_
  have hc := x5CT_s hT
  have hwa := WF_a hW.1
  unfold WFa at hwa
  refine ra_load rfl rfl rfl rfl ?_
  refine ra_iconst rfl ?_
  refine ra_putI rfl lk_1_18 (Nat.zero_le _) sh_172 rfl rfl ?_
  refine ra_newU (by first | omega | (unfold ra_in at *; omega)) (fun s1 hs1 hp2 hp2o => ?_)
  have hF3 := Fr_tr (lo := 172) (hi := 175) Fr_rf hs1 (by omega)
  have hk4 : s1 (E0) = σ (E0) := (hs1 (E0) (by omega))
  refine ra_load rfl rfl rfl rfl ?_
  refine ra_load rfl rfl rfl rfl ?_
  refine ra_getI rfl lk_1_22 (Nat.zero_le _) (sh_D hE0) rfl ?_
  rw [ra_gk hk4]
  rw [show (ra_g σ (E0) 7) = ra_g τ 180 3 from hc.2.2.2.1]
  have hr5 : ra_in (ra_g τ 180 3) := (ra_in_g _ _ _)
  refine ra_putI rfl lk_1_27 (Nat.zero_le _) sh_172 rfl rfl ?_
  refine ra_newU hr5 (fun s6 hs6 hp7 hp7o => ?_)
  have hF8 := Fr_tr (lo := 172) (hi := 175) hF3 hs6 (by omega)
  have hk9 : s6 (E0) = σ (E0) := (hs6 (E0) (by omega)).trans hk4
  refine ra_load rfl rfl rfl rfl ?_
  refine ra_getI rfl lk_1_28 (Nat.zero_le _) (sh_D hE0) rfl ?_
  rw [ra_gk hk9]
  rw [show (ra_g σ (E0) 5) = ra_g τ 180 1 from hc.2.1]
  have hr10 : ra_in (ra_g τ 180 1) := (ra_in_g _ _ _)
  refine ra_store (L' := [_, _, _, _, _, _]) rfl rfl rfl (Nat.le_of_ble_eq_true rfl) rfl ?_
  refine ra_load rfl rfl rfl rfl ?_
  refine ra_cTp (s5_9 hE0 (x5CT_e4 (fun c c1 c2 c3 c4 => ((hs6 c (by omega)).trans (hs1 c (by omega)))) hT) (by first | assumption | rfl | omega)) rfl (ct_9 rfl lk_1_31 (Or.inl rfl) (sh_D hE0) (Nat.le_of_ble_eq_true rfl)) ?_
  have hr12 : ra_in (ra_g τ 180 0 - ra_g τ 180 2) := (x5ue_in (by first | assumption | rfl | omega))
  refine ra_store (L' := [_, _, _, _, _, _]) rfl rfl rfl (Nat.le_of_ble_eq_true rfl) rfl ?_
  refine ra_iconst rfl ?_
  refine ra_store (L' := [_, _, _, _, _, _]) rfl rfl rfl (Nat.le_of_ble_eq_true rfl) rfl ?_
  exact ra_weak (by repeat' constructor) (l5_48_26 hE0 hq hT hW _ (ra_g τ 180 1) (ra_g τ 180 0 - ra_g τ 180 2) (0) s6 hr10 (by first | omega | (unfold ra_in at *; omega)) (by first | omega | (unfold ra_in at *; omega)) (by first | omega | (unfold ra_in at *; omega)) hF8 (by rw [show ra_g s6 172 2 = 0 from ((hp7o 2 (by decide)).trans hp2)]; exact x5gb_0) (hp7) (Nat.lt_succ_self _))
end
