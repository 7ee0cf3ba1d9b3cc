/-! T5: the class packs (printed by wip/gen/c9.py) -/
section
variable {τ : ra_V} {nh : Int} {R : Nat → ra_V} {qq : Nat}
theorem s8_38 {n : Nat} {f : Nat → Int32} {d : Nat} {D : Nat} {σ : ra_V} (hD : isD D) (hT : x5CT τ σ D) (hW : x5W2 τ) (hmon : ra_g τ 180 16 ≠ -1) : ra_C (g_Gs n f) g_sh 0 (d + 5) 38 [.index (D)] σ (fun r9 s => rV r9 ∧ Fr (D) (D + 13) σ s ∧ x5CT (x5st0 τ) s D ∧ s (D + 4) = σ (D + 4)) := by
  refine ra_enter (nn := 1) mt_38 rfl (Nat.le_of_ble_eq_true rfl) rfl (fun h => absurd h (by decide +kernel)) ?_
  have hon := x5CT_on hT
  have hm := x5CT_m hT hmon
  have hmf := MV_f hW.1 hmon
  unfold MF at hmf
  refine ra_load rfl rfl rfl rfl ?_
  refine ra_getR rfl lk_0_24 (Nat.zero_le _) (sh_D hD) rfl ?_
  refine ra_cTp (s5_72 hD hT (by first | assumption | rfl | omega) (by first | assumption | rfl | omega)) rfl (ct_72 rfl lk_0_208 (Or.inl rfl) (sh_D3 hD) (Nat.le_of_ble_eq_true rfl)) ?_
  have hr2 : ra_in (rfb τ) := (by unfold ra_in; omega)
  refine ra_store (L' := [_, _]) rfl rfl rfl (Nat.le_of_ble_eq_true rfl) rfl ?_
  refine ra_load rfl rfl rfl rfl ?_
  refine ra_load rfl rfl rfl rfl ?_
  refine ra_getR rfl lk_0_24 (Nat.zero_le _) (sh_D hD) rfl ?_
  refine ra_load rfl rfl rfl rfl ?_
  refine ra_cIp (sp_75 hD hr2) rfl (ct_75 rfl lk_0_251 (Or.inl rfl) (sh_D3 hD) (Nat.le_of_ble_eq_true rfl)) (fun z4 hz4 => ?_)
  refine ra_load rfl rfl rfl rfl ?_
  refine ra_getR rfl lk_0_24 (Nat.zero_le _) (sh_D hD) rfl ?_
  refine ra_load rfl rfl rfl rfl ?_
  refine ra_cIp (sp_76 hD hr2) rfl (ct_76 rfl lk_0_254 (Or.inl rfl) (sh_D3 hD) (Nat.le_of_ble_eq_true rfl)) (fun z6 hz6 => ?_)
  refine ra_load rfl rfl rfl rfl ?_
  refine ra_getR rfl lk_0_24 (Nat.zero_le _) (sh_D hD) rfl ?_
  refine ra_cTp (s5_73 hD hT (by first | assumption | rfl | omega) (by first | assumption | rfl | omega)) rfl (ct_73 rfl lk_0_257 (Or.inl rfl) (sh_D3 hD) (Nat.le_of_ble_eq_true rfl)) ?_
  have hr8 : ra_in (rbn τ) := (by unfold ra_in; omega)
  refine ra_cV (sp_40 hD hz4 hz6 hr8) rfl (ct_40 rfl lk_0_260 (Or.inl rfl) (sh_D hD) (Nat.le_of_ble_eq_true rfl)) (fun s9 hs9 => ?_)
  have hF10 := Fr_tr (lo := D) (hi := D + 13) Fr_rf hs9 (by omega)
  refine ra_load rfl rfl rfl rfl ?_
  refine ra_getR rfl lk_0_24 (Nat.zero_le _) (sh_D hD) rfl ?_
  refine ra_cIPp (s5_74 hD (x5CT_e4 (fun c c1 c2 c3 c4 => (hs9 c (by omega))) hT) (by first | assumption | rfl | omega) (by first | assumption | rfl | omega)) rfl (ct_74 rfl lk_0_264 (Or.inl rfl) (sh_D3 hD) (Nat.le_of_ble_eq_true rfl)) (fun z12 hz12 hz12p => ?_)
  refine ra_iconst rfl ?_
  refine ra_icne rfl rfl hz12 (by first | omega | (unfold ra_in at *; omega)) (fun h13 => ?_) (fun h13 => ?_)
  · refine ra_load rfl rfl rfl rfl ?_
    refine ra_getR rfl lk_0_24 (Nat.zero_le _) (sh_D hD) rfl ?_
    refine ra_iconst rfl ?_
    refine ra_putB rfl lk_0_202 (Nat.zero_le _) (sh_D3 hD) rfl rfl (Or.inl rfl) ?_
    refine ra_newU (ra_in01 (Or.inl rfl)) (fun s14 hs14 hp15 hp15o => ?_)
    have hF16 := Fr_tr (lo := D) (hi := D + 13) hF10 hs14 (by omega)
    refine ra_load rfl rfl rfl rfl ?_
    refine ra_getR rfl lk_0_24 (Nat.zero_le _) (sh_D hD) rfl ?_
    refine ra_dup rfl rfl ?_
    refine ra_getI rfl lk_0_245 (Nat.zero_le _) (sh_D3 hD) rfl ?_
    rw [show (ra_g s14 (D + 3) 7) = (ra_g σ (D + 3) 7) from ((hp15o 7 (by decide)).trans (ra_gk (hs9 (D + 3) (by omega))))]
    rw [show (ra_g σ (D + 3) 7) = ra_g τ 180 21 from hm.2.2.2.2.2.2.1]
    have hr17 : ra_in (ra_g τ 180 21) := (ra_in_g _ _ _)
    refine ra_iconst rfl ?_
    refine ra_iadd rfl ?_
    refine ra_putI rfl lk_0_245 (Nat.zero_le _) (sh_D3 hD) rfl rfl ?_
    refine ra_newU (by first | omega | (unfold ra_in at *; omega)) (fun s18 hs18 hp19 hp19o => ?_)
    have hF20 := Fr_tr (lo := D) (hi := D + 13) hF16 hs18 (by omega)
    refine ra_load rfl rfl rfl rfl ?_
    refine ra_getR rfl lk_0_24 (Nat.zero_le _) (sh_D hD) rfl ?_
    refine ra_getI rfl lk_0_245 (Nat.zero_le _) (sh_D3 hD) rfl ?_
    rw [show (ra_g s18 (D + 3) 7) = (((ra_g τ 180 21) + (1))) from hp19]
    have hr21 : ra_in (((ra_g τ 180 21) + (1))) := (by rw [← (show (ra_g s18 (D + 3) 7) = (((ra_g τ 180 21) + (1))) from hp19)]; exact ra_in_g _ _ _)
    refine ra_load rfl rfl rfl rfl ?_
    refine ra_getR rfl lk_0_24 (Nat.zero_le _) (sh_D hD) rfl ?_
    refine ra_getI rfl lk_0_242 (Nat.zero_le _) (sh_D3 hD) rfl ?_
    rw [show (ra_g s18 (D + 3) 5) = (ra_g σ (D + 3) 5) from ((hp19o 5 (by decide)).trans ((hp15o 5 (by decide)).trans (ra_gk (hs9 (D + 3) (by omega)))))]
    rw [show (ra_g σ (D + 3) 5) = rch τ from hm.2.2.2.2.1]
    have hr22 : ra_in (rch τ) := (x5rch_in hW hmon)
    refine ra_iclt rfl rfl hr21 hr22 (fun h23 => ?_) (fun h23 => ?_)
    · exact ra_return rfl rfl ⟨rfl, ⟨hF20, (show x5CT (x5st0 τ) s18 D from by rw [x5st0_b (by have q9 := hz12p; omega) (by omega)]; exact x5ct_stb hT (by omega) (fun c c1 c2 c3 c4 => ((hs18 c (by omega)).trans ((hs14 c (by omega)).trans (hs9 c (by omega))))) ((hp19o 8 (by decide)).trans hp15) hp19 (fun a a7 a8 => ((hp19o a (by omega)).trans ((hp15o a (by omega)).trans (ra_gk (hs9 (D + 3) (by omega))))))), ((hs18 (D + 4) (by omega)).trans ((hs14 (D + 4) (by omega)).trans (hs9 (D + 4) (by omega))))⟩⟩
    · refine ra_load rfl rfl rfl rfl ?_
      refine ra_cV (s5_41 hD (x5ct_stb hT (by omega) (fun c c1 c2 c3 c4 => ((hs18 c (by omega)).trans ((hs14 c (by omega)).trans (hs9 c (by omega))))) ((hp19o 8 (by decide)).trans hp15) hp19 (fun a a7 a8 => ((hp19o a (by omega)).trans ((hp15o a (by omega)).trans (ra_gk (hs9 (D + 3) (by omega))))))) (show (ra_g τ 180 16).toNat < 8 by omega) (show ra_g (x5up (x5up τ 22 0) 21 (ra_g τ 180 21 + 1)) 180 16 = (((ra_g τ 180 16).toNat : Nat) : Int) by rw [x5uo_n (by omega), x5uo_n (by omega)]; omega) (show wq (x5up (x5up τ 22 0) 21 (ra_g τ 180 21 + 1)) (((ra_g τ 180 16).toNat : Nat) : Int) 0 = 1 by rw [x5up_wn (by omega), x5up_wn (by omega), show (((ra_g τ 180 16).toNat : Nat) : Int) = ra_g τ 180 16 by omega]; exact hmf.2.1)) rfl (ct_41 rfl lk_0_267 (Or.inl rfl) (sh_D hD) (Nat.le_of_ble_eq_true rfl)) (fun s24 hs24 => ?_)
      obtain ⟨hf25, he26⟩ := hs24
      have hF27 := Fr_tr (lo := D) (hi := D + 13) hF20 hf25 (by omega)
      exact ra_return rfl rfl ⟨rfl, ⟨hF27, (show x5CT (x5st0 τ) s24 D from by have k3 : ∀ c, c ≠ D + 1 → c ≠ D + 3 → s18 c = σ c := (fun c c1 c2 => ((hs18 c (by omega)).trans ((hs14 c (by omega)).trans (hs9 c (by omega))))); obtain ⟨r1, r2, r3, r4, r5, r6, r7⟩ := he26; rw [x5st0_e (by have q9 := hz12p; omega) (by omega)]; exact x5ct_ste (p := (ra_g τ 180 16).toNat) hT hW.1 (by omega) (fun c c1 c2 c3 c4 c5 => (r1 c (by omega) c2 c3).trans (k3 c c1 c2)) (by rw [r2, ra_gk (k3 D (by omega) (by omega))]) (fun a ha => (r3 a ha).trans (ra_gk (k3 D (by omega) (by omega)))) r4 (r5.trans (by have e9 := ((hp19o 3 (by decide)).trans ((hp15o 3 (by decide)).trans (ra_gk (hs9 (D + 3) (by omega))))); omega)) (by rw [r6, ra_gk (k3 (D + 5 + (ra_g τ 180 16).toNat) (by omega) (by omega))]) (fun a a1 a7 => (r7 a a1 a7).trans (ra_gk (k3 (D + 5 + (ra_g τ 180 16).toNat) (by omega) (by omega))))), ((he26.1 (D + 4) (by omega) (by omega) (by omega)).trans ((hs18 (D + 4) (by omega)).trans ((hs14 (D + 4) (by omega)).trans (hs9 (D + 4) (by omega)))))⟩⟩
  · refine ra_load rfl rfl rfl rfl ?_
    refine ra_getR rfl lk_0_24 (Nat.zero_le _) (sh_D hD) rfl ?_
    refine ra_iconst rfl ?_
    refine ra_putB rfl lk_0_202 (Nat.zero_le _) (sh_D3 hD) rfl rfl (Or.inr rfl) ?_
    refine ra_newU (ra_in01 (Or.inr rfl)) (fun s28 hs28 hp29 hp29o => ?_)
    have hF30 := Fr_tr (lo := D) (hi := D + 13) hF10 hs28 (by omega)
    exact ra_return rfl rfl ⟨rfl, ⟨hF30, (show x5CT (x5st0 τ) s28 D from by rw [x5st0_a (by have q9 := hz12p; omega)]; exact x5ct_sta hT (by omega) (fun c c1 c2 c3 c4 => ((hs28 c (by omega)).trans (hs9 c (by omega)))) hp29 (fun a ha => ((hp29o a (by omega)).trans (ra_gk (hs9 (D + 3) (by omega)))))), ((hs28 (D + 4) (by omega)).trans (hs9 (D + 4) (by omega)))⟩⟩
theorem l8_37_2 {n : Nat} {f : Nat → Int32} {d : Nat} {D : Nat} {x0 : Int} {σ : ra_V} (hD : isD D) (hx0 : ra_in x0) (hT : x5CT τ σ D) (hW : x5W2 τ) (h0 : 0 ≤ x0) : ∀ (nn : Nat) (v2 : Int) (s : ra_V) (hv2_0 : 0 ≤ v2) (hv2_1 : v2 ≤ x0) (hF : Fr (D) (D + 13) σ s) (hct : x5CT (x5itv v2.toNat τ) s D) (hw2 : x5W2 (x5itv v2.toNat τ)) (h26 : ra_g (x5itv v2.toNat τ) 180 6 = ra_g τ 180 6) (hcn : x5cnv v2.toNat τ = v2) (hk4 : s (D + 4) = σ (D + 4)) (hm : ((x0 - v2 : Int)).toNat < nn), ra_P (g_Gs n f) g_sh 0 (d + 5) g_m_X0_doSteps 2 [some (.index (D)), some (ra_I x0), some (ra_I v2)] [] s (fun r9 s => rI r9 ∧ Fr (D) (D + 13) σ s ∧ x5CT (x5runV x0.toNat τ) s D ∧ s (D + 4) = σ (D + 4)) := by
  intro nn
  induction nn with
  | zero => intro v2 s hv2_0 hv2_1 hF hct hw2 h26 hcn hk4 hm; exact absurd hm (Nat.not_lt_zero _)
  | succ nn ih =>
    intro v2 s hv2_0 hv2_1 hF hct hw2 h26 hcn hk4 hm
    refine ra_load rfl rfl rfl rfl ?_
    refine ra_load rfl rfl rfl rfl ?_
    refine ra_icge rfl rfl (by first | omega | (unfold ra_in at *; omega)) hx0 (fun h1 => ?_) (fun h1 => ?_)
    · refine ra_load rfl rfl rfl rfl ?_
      refine ra_dup rfl rfl ?_
      refine ra_getI rfl lk_0_53 (Nat.zero_le _) (sh_D hD) rfl ?_
      have hr2 : ra_in (ra_g s (D) 10) := (ra_in_g _ _ _)
      refine ra_load rfl rfl rfl rfl ?_
      refine ra_iadd rfl ?_
      refine x5wr_ ?_
      refine ra_putI rfl lk_0_53 (Nat.zero_le _) (sh_D hD) rfl rfl ?_
      refine ra_newU (ra_w_in _) (fun s3 hs3 hp4 hp4o => ?_)
      have hF5 := Fr_tr (lo := D) (hi := D + 13) hF hs3 (by omega)
      refine ra_load rfl rfl rfl rfl ?_
      exact ra_ireturn rfl rfl ⟨⟨_, (by first | omega | (unfold ra_in at *; omega)), rfl⟩, ⟨hF5, x5rn_ct hct hw2.1 h26 (by rw [show x0.toNat = v2.toNat by omega]; exact ⟨rfl, rfl⟩) (by omega) (fun c c1 c2 c3 => (hs3 c (by omega))) (hp4) (fun a ha => (hp4o a (by omega))), (hs3 (D + 4) (by omega)).trans hk4⟩⟩
    · refine ra_load rfl rfl rfl rfl ?_
      refine ra_getR rfl lk_0_24 (Nat.zero_le _) (sh_D hD) rfl ?_
      refine ra_cQPp (s5_67 hD hct) rfl (ct_67 rfl lk_0_155 (Or.inl rfl) (sh_D3 hD) (Nat.le_of_ble_eq_true rfl)) (fun z7 hz7 hz7p => ?_)
      refine ra_ifeq rfl rfl (ra_in01 hz7) (fun h8 => ?_) (fun h8 => ?_)
      · refine ra_load rfl rfl rfl rfl ?_
        refine ra_dup rfl rfl ?_
        refine ra_getI rfl lk_0_53 (Nat.zero_le _) (sh_D hD) rfl ?_
        have hr9 : ra_in (ra_g s (D) 10) := (ra_in_g _ _ _)
        refine ra_load rfl rfl rfl rfl ?_
        refine ra_iadd rfl ?_
        refine x5wr_ ?_
        refine ra_putI rfl lk_0_53 (Nat.zero_le _) (sh_D hD) rfl rfl ?_
        refine ra_newU (ra_w_in _) (fun s10 hs10 hp11 hp11o => ?_)
        have hF12 := Fr_tr (lo := D) (hi := D + 13) hF hs10 (by omega)
        refine ra_load rfl rfl rfl rfl ?_
        exact ra_ireturn rfl rfl ⟨⟨_, (by first | omega | (unfold ra_in at *; omega)), rfl⟩, ⟨hF12, x5rn_ct hct hw2.1 h26 (x5itv_e (by have q9 := hz7p; omega) (by omega)) (by omega) (fun c c1 c2 c3 => (hs10 c (by omega))) (hp11) (fun a ha => (hp11o a (by omega))), (hs10 (D + 4) (by omega)).trans hk4⟩⟩
      · refine ra_load rfl rfl rfl rfl ?_
        refine ra_cV (s8_38 hD hct hw2 (hz7p.mp (by omega))) rfl (ct_38 rfl lk_0_248 (Or.inl rfl) (sh_D hD) (Nat.le_of_ble_eq_true rfl)) (fun s13 hs13 => ?_)
        obtain ⟨hf14, he15, he16⟩ := hs13
        have hF17 := Fr_tr (lo := D) (hi := D + 13) hF hf14 (by omega)
        refine ra_iinc (L' := [_, _, _]) rfl rfl (Nat.le_of_ble_eq_true rfl) rfl ?_
        refine ra_goto rfl rfl ?_
        exact ra_weak (by repeat' constructor) (ih (v2 + 1) s13 (by first | omega | (unfold ra_in at *; omega)) (by first | omega | (unfold ra_in at *; omega)) hF17 (by rw [show (v2 + 1).toNat = v2.toNat + 1 by omega, x5itv_y (hz7p.mp (by omega))]; exact he15) (by rw [show (v2 + 1).toNat = v2.toNat + 1 by omega, x5itv_y (hz7p.mp (by omega))]; exact x5w2_st hw2 (hz7p.mp (by omega))) (by rw [show (v2 + 1).toNat = v2.toNat + 1 by omega, x5itv_y (hz7p.mp (by omega)), x5st0_6 hw2.1 (hz7p.mp (by omega))]; exact h26) (by rw [show (v2 + 1).toNat = v2.toNat + 1 by omega, x5cnv_y (hz7p.mp (by omega))]; omega) (he16.trans hk4) (by first | omega | (unfold ra_in at *; omega)))
theorem s8_37 {n : Nat} {f : Nat → Int32} {d : Nat} {D : Nat} {x0 : Int} {σ : ra_V} (hD : isD D) (hx0 : ra_in x0) (hT : x5CT τ σ D) (hW : x5W2 τ) (h0 : 0 ≤ x0) : ra_C (g_Gs n f) g_sh 0 (d + 6) 37 [.index (D), ra_I x0] σ (fun r9 s => rI r9 ∧ Fr (D) (D + 13) σ s ∧ x5CT (x5runV x0.toNat τ) s D ∧ s (D + 4) = σ (D + 4)) := by
  refine ra_enter (nn := 1) mt_37 rfl (Nat.le_of_ble_eq_true rfl) rfl (fun h => absurd h (by decide +kernel)) ?_
  refine ra_iconst rfl ?_
  refine ra_store (L' := [_, _, _]) rfl rfl rfl (Nat.le_of_ble_eq_true rfl) rfl ?_
  exact ra_weak (by repeat' constructor) (l8_37_2 hD hx0 hT hW h0 _ (0) σ (by first | omega | (unfold ra_in at *; omega)) (by first | omega | (unfold ra_in at *; omega)) Fr_rf hT hW rfl rfl rfl (Nat.lt_succ_self _))
end
