/-! T5: what the reference changes (printed by wip/gen/r6.py) -/
section
theorem l5_329_33 {n : Nat} {f : Nat → Int32} {d : Nat}  {σ : ra_V} (hw : WF σ) (hw3 : x5W3 σ) (hoff : ra_g σ 180 16 = -1) : ∀ (nn : Nat) (v1 : Int) (v2 : Int) (v3 : Int) (s : ra_V) (hv1_0 : v1 = ct σ (-1)) (hv1_1 : 0 ≤ v1 ∧ v1 ≤ 8) (hv2_0 : ra_in v2) (hv2_1 : v2 = x5pkN v3.toNat σ) (hv3_0 : 0 ≤ v3) (hv3_1 : v3 ≤ v1) (hF : Fr (180) (190) σ s) (hk0 : s (181) = σ (181)) (hk1 : s (182) = σ (182)) (hk2 : s (183) = σ (183)) (hk3 : s (184) = σ (184)) (hk4 : s (187) = σ (187)) (hws : WF s) (hex : ∀ p, 0 ≤ p → p < 8 → wq s p 0 = wq σ p 0) (hln : ∀ k : Nat, (k : Int) < v1 → 0 ≤ ra_g s 189 k ∧ ra_g s 189 k < 8 ∧ wq σ (ra_g s 189 k) 0 = 1) (hsc : SC (x5pkV v3.toNat σ) s) (hlq : ∀ k : Nat, (k : Int) < v1 → ra_g s 189 k = x5ordN σ k ∧ x5EX σ (x5ordN σ k)) (hm : ((v1 - v3 : Int)).toNat < nn), ra_P (g_Gs n f) g_sh 0 (d + 10) g_m_X8_compacts 33 [some (.index (179)), some (ra_I v1), some (ra_I v2), some (ra_I v3), none] [] s (fun r9 s => (∃ z, ra_in z ∧ (z = x5pkN (ct σ (-1)).toNat σ) ∧ r9 = .inl (some (ra_I z))) ∧ Fr (180) (190) σ s ∧ s (181) = σ (181) ∧ s (182) = σ (182) ∧ s (183) = σ (183) ∧ s (184) = σ (184) ∧ s (187) = σ (187) ∧ WF s ∧ SC (x5pkV (ct σ (-1)).toNat σ) s) := by
  intro nn
  induction nn with
  | zero => intro v1 v2 v3 s hv1_0 hv1_1 hv2_0 hv2_1 hv3_0 hv3_1 hF hk0 hk1 hk2 hk3 hk4 hws hex hln hsc hlq hm; exact absurd hm (Nat.not_lt_zero _)
  | succ nn ih =>
    intro v1 v2 v3 s hv1_0 hv1_1 hv2_0 hv2_1 hv3_0 hv3_1 hF hk0 hk1 hk2 hk3 hk4 hws hex hln hsc hlq hm
    have hw1 := WF_a hws
    unfold WFa at hw1
    refine ra_load rfl rfl rfl rfl ?_
    refine ra_load rfl rfl rfl rfl ?_
    refine ra_icge rfl rfl (by first | omega | (unfold ra_in at *; omega)) (by first | omega | (unfold ra_in at *; omega)) (fun h4 => ?_) (fun h4 => ?_)
    · refine ra_load rfl rfl rfl rfl ?_
      exact ra_ireturn rfl rfl ⟨⟨_, (by first | omega | (unfold ra_in at *; omega)), (by rw [show (ct σ (-1)).toNat = v3.toNat by omega]; exact hv2_1), rfl⟩, ⟨hF, hk0, hk1, hk2, hk3, hk4, hws, by rw [show (ct σ (-1)).toNat = v3.toNat by omega]; exact hsc⟩⟩
    · refine ra_load rfl rfl rfl rfl ?_
      refine ra_load rfl rfl rfl rfl ?_
      refine ra_getR rfl lk_8_41 (Nat.zero_le _) sh_179 rfl ?_
      refine ra_load rfl rfl rfl rfl ?_
      refine ra_iaload rfl sh_189 rfl (by decide) (by first | omega | (unfold ra_in at *; omega)) (by first | omega | (unfold ra_in at *; omega)) ?_
      have hr5 : ra_in (ra_g s (189) v3.toNat) := (ra_in_g _ _ _)
      refine ra_cIPp (s6_244 hr5 hws (lnp_ hln hex v3 (by omega))) rfl (ct_244 rfl lk_8_404 (Or.inl rfl) sh_179 (Nat.le_of_ble_eq_true rfl)) (fun z7 hz7 hz7p => ?_)
      have hz7o := hz7p.1
      have hz7q := hz7p.2
      clear hz7p
      have hpk := x5pks (x5W2_i hw hw3) hoff v3.toNat (fun j hj => (hlq j (by omega)).2)
      have hlx := hlq v3.toNat (by omega)
      have hls := x5lst_0 (Int.le_refl 0) (x5lst_c hsc hlx.2.2.1 (by have q9 := hz7q; rw [hlx.1] at q9; exact q9)) (Or.inl rfl)
      refine ra_store (L' := [_, _, _, _, _]) rfl rfl rfl (Nat.le_of_ble_eq_true rfl) rfl ?_
      refine ra_load rfl rfl rfl rfl ?_
      refine ra_iconst rfl ?_
      refine ra_icne rfl rfl hz7 (by first | omega | (unfold ra_in at *; omega)) (fun h8 => ?_) (fun h8 => ?_)
      · refine ra_load rfl rfl rfl rfl ?_
        refine ra_load rfl rfl rfl rfl ?_
        refine ra_getR rfl lk_8_41 (Nat.zero_le _) sh_179 rfl ?_
        refine ra_load rfl rfl rfl rfl ?_
        refine ra_iaload rfl sh_189 rfl (by decide) (by first | omega | (unfold ra_in at *; omega)) (by first | omega | (unfold ra_in at *; omega)) ?_
        have hr9 : ra_in (ra_g s (189) v3.toNat) := (ra_in_g _ _ _)
        refine ra_load rfl rfl rfl rfl ?_
        refine ra_cV (s5_240 hr9 hz7 hws (lnp_ hln hex v3 (by omega)) (mok_of hz7o (by omega))) rfl (ct_240 rfl lk_8_391 (Or.inl rfl) sh_179 (Nat.le_of_ble_eq_true rfl)) (fun s10 hs10 => ?_)
        obtain ⟨hf11, he12, he13, he14, he15⟩ := hs10
        have hF16 := Fr_tr (lo := 180) (hi := 190) hF hf11 (by omega)
        have hk17 : s10 (181) = σ (181) := (hf11 (181) (by omega)).trans hk0
        have hk18 : s10 (182) = σ (182) := (hf11 (182) (by omega)).trans hk1
        have hk19 : s10 (183) = σ (183) := (hf11 (183) (by omega)).trans hk2
        have hk20 : s10 (184) = σ (184) := (hf11 (184) (by omega)).trans hk3
        have hk21 : s10 (187) = σ (187) := (hf11 (187) (by omega)).trans hk4
        refine ra_load rfl rfl rfl rfl ?_
        refine ra_load rfl rfl rfl rfl ?_
        refine ra_load rfl rfl rfl rfl ?_
        refine ra_cTp (s5_235 (MV_f he12 (by have := he13; have a := hln v3.toNat (by omega); omega))) rfl (ct_235 rfl lk_8_394 (Or.inl rfl) sh_179 (Nat.le_of_ble_eq_true rfl)) ?_
        have hr23 : ra_in (x5SLF s10) := (x5slf_i (MV_f he12 (by have := he13; have a := hln v3.toNat (by omega); omega)))
        refine ra_cIP (s5_242 hr23 he12) rfl (ct_242 rfl lk_8_399 (Or.inl rfl) sh_179 (Nat.le_of_ble_eq_true rfl)) (fun z25 s24 hz25 hz25p hs24 => ?_)
        obtain ⟨hf26, he27, he28, he29⟩ := hs24
        have hF30 := Fr_tr (lo := 180) (hi := 190) hF16 hf26 (by omega)
        have hk31 : s24 (181) = σ (181) := (hf26 (181) (by omega)).trans hk17
        have hk32 : s24 (182) = σ (182) := (hf26 (182) (by omega)).trans hk18
        have hk33 : s24 (183) = σ (183) := (hf26 (183) (by omega)).trans hk19
        have hk34 : s24 (184) = σ (184) := (hf26 (184) (by omega)).trans hk20
        have hk35 : s24 (187) = σ (187) := (hf26 (187) (by omega)).trans hk21
        have hcs := (x5pk_sc (n := (x5SLF s10).toNat) hpk.1 (show x5EX (x5pkV v3.toNat σ) (x5ordN σ v3.toNat) from ⟨hlx.2.1, hlx.2.2.1, (hpk.2.2 _ hlx.2.1 hlx.2.2.1).trans hlx.2.2.2⟩) hsc (show x5whyM (x5pkV v3.toNat σ) (x5ordN σ v3.toNat) z7 (ra_g (x5pkV v3.toNat σ) 180 4) = 0 from by rw [hls]; exact x5ls_ok hpk.1 ⟨hlx.2.1, hlx.2.2.1, (hpk.2.2 _ hlx.2.1 hlx.2.2.1).trans hlx.2.2.2⟩ (by rw [← hls]; omega)) (by have q9 := he15; rw [hlx.1] at q9; exact q9) rfl he29)
        have hrp := hz25p
        have hcn := x5cnv_pos (τ := s10) (by have := he13; have a := hln v3.toNat (by omega); omega) ((x5SLF s10).toNat - 1)
        rw [show (x5SLF s10).toNat - 1 + 1 = (x5SLF s10).toNat by have := hcs.2; omega] at hcn
        refine ra_ifle rfl rfl hz25 (fun h36 => ?_) (fun h36 => ?_)
        · refine ra_iconst rfl ?_
          refine ra_iadd rfl ?_
          refine ra_store (L' := [_, _, _, _, _]) rfl rfl rfl (Nat.le_of_ble_eq_true rfl) rfl ?_
          refine ra_iinc (L' := [_, _, _, _, _]) rfl rfl (Nat.le_of_ble_eq_true rfl) rfl ?_
          refine ra_goto rfl rfl ?_
          exact ra_weak (by repeat' constructor) (ih v1 (v2 + (0)) (v3 + 1) s24 (by first | omega | (unfold ra_in at *; omega)) (by first | omega | (unfold ra_in at *; omega)) (by have := x5pkN_b (τ := σ) v3.toNat; unfold ra_in; omega) (by rw [show (v3 + 1).toNat = v3.toNat + 1 by omega]; rw [(x5pk_y (by rw [← hls]; omega)).2]; omega) (by first | omega | (unfold ra_in at *; omega)) (by first | omega | (unfold ra_in at *; omega)) hF30 hk31 hk32 hk33 hk34 hk35 he27 (fun p p0 p1 => ((he28 p p0 p1).trans ((he14 p p0 p1).trans (hex p p0 p1)))) (ln_k ((hf26 189 (by omega)).trans (hf11 189 (by omega))) hln) (by rw [show (v3 + 1).toNat = v3.toNat + 1 by omega]; rw [(x5pk_y (by rw [← hls]; omega)).1, ← hls]; exact hcs.1) (fun k hk => ⟨(ra_gk ((hf26 189 (by omega)).trans (hf11 189 (by omega)))).trans (hlq k hk).1, (hlq k hk).2⟩) (by first | omega | (unfold ra_in at *; omega)))
        · refine ra_iconst rfl ?_
          refine ra_goto rfl rfl ?_
          refine ra_iadd rfl ?_
          refine ra_store (L' := [_, _, _, _, _]) rfl rfl rfl (Nat.le_of_ble_eq_true rfl) rfl ?_
          refine ra_iinc (L' := [_, _, _, _, _]) rfl rfl (Nat.le_of_ble_eq_true rfl) rfl ?_
          refine ra_goto rfl rfl ?_
          exact ra_weak (by repeat' constructor) (ih v1 (v2 + (1)) (v3 + 1) s24 (by first | omega | (unfold ra_in at *; omega)) (by first | omega | (unfold ra_in at *; omega)) (by have := x5pkN_b (τ := σ) v3.toNat; unfold ra_in; omega) (by rw [show (v3 + 1).toNat = v3.toNat + 1 by omega]; rw [(x5pk_y (by rw [← hls]; omega)).2]; omega) (by first | omega | (unfold ra_in at *; omega)) (by first | omega | (unfold ra_in at *; omega)) hF30 hk31 hk32 hk33 hk34 hk35 he27 (fun p p0 p1 => ((he28 p p0 p1).trans ((he14 p p0 p1).trans (hex p p0 p1)))) (ln_k ((hf26 189 (by omega)).trans (hf11 189 (by omega))) hln) (by rw [show (v3 + 1).toNat = v3.toNat + 1 by omega]; rw [(x5pk_y (by rw [← hls]; omega)).1, ← hls]; exact hcs.1) (fun k hk => ⟨(ra_gk ((hf26 189 (by omega)).trans (hf11 189 (by omega)))).trans (hlq k hk).1, (hlq k hk).2⟩) (by first | omega | (unfold ra_in at *; omega)))
      · refine ra_goto rfl rfl ?_
        refine ra_iinc (L' := [_, _, _, _, _]) rfl rfl (Nat.le_of_ble_eq_true rfl) rfl ?_
        refine ra_goto rfl rfl ?_
        exact ra_weak (by repeat' constructor) (ih v1 v2 (v3 + 1) s (by first | omega | (unfold ra_in at *; omega)) (by first | omega | (unfold ra_in at *; omega)) (by have := x5pkN_b (τ := σ) v3.toNat; unfold ra_in; omega) (by rw [show (v3 + 1).toNat = v3.toNat + 1 by omega]; rw [(x5pk_n (by rw [← hls]; omega)).2]; exact hv2_1) (by first | omega | (unfold ra_in at *; omega)) (by first | omega | (unfold ra_in at *; omega)) hF hk0 hk1 hk2 hk3 hk4 hws (fun p p0 p1 => (hex p p0 p1)) hln (by rw [show (v3 + 1).toNat = v3.toNat + 1 by omega]; rw [(x5pk_n (by rw [← hls]; omega)).1]; exact hsc) (fun k hk => ⟨(ra_gk rfl).trans (hlq k hk).1, (hlq k hk).2⟩) (by first | omega | (unfold ra_in at *; omega)))
theorem l5_329_9 {n : Nat} {f : Nat → Int32} {d : Nat}  {σ : ra_V} (hw : WF σ) (hw3 : x5W3 σ) (hoff : ra_g σ 180 16 = -1) : ∀ (nn : Nat) (v1 : Int) (v3 : Int) (s : ra_V) (hv1_0 : v1 = ct σ (-1)) (hv1_1 : 0 ≤ v1 ∧ v1 ≤ 8) (hv3_0 : 0 ≤ v3) (hv3_1 : v3 ≤ v1) (hF : Fr (180) (190) σ s) (hk0 : s (180) = σ (180)) (hk1 : s (181) = σ (181)) (hk2 : s (182) = σ (182)) (hk3 : s (183) = σ (183)) (hk4 : s (184) = σ (184)) (hk5 : s (187) = σ (187)) (hln : ∀ k : Nat, (k : Int) < v3 → 0 ≤ ra_g s 189 k ∧ ra_g s 189 k < 8 ∧ wq σ (ra_g s 189 k) 0 = 1) (hlq : ∀ k : Nat, (k : Int) < v3 → ra_g s 189 k = x5ordN σ k ∧ x5EX σ (x5ordN σ k)) (hm : ((v1 - v3 : Int)).toNat < nn), ra_P (g_Gs n f) g_sh 0 (d + 10) g_m_X8_compacts 9 [some (.index (179)), some (ra_I v1), some (ra_I (0)), some (ra_I v3), none] [] s (fun r9 s => (∃ z, ra_in z ∧ (z = x5pkN (ct σ (-1)).toNat σ) ∧ r9 = .inl (some (ra_I z))) ∧ Fr (180) (190) σ s ∧ s (181) = σ (181) ∧ s (182) = σ (182) ∧ s (183) = σ (183) ∧ s (184) = σ (184) ∧ s (187) = σ (187) ∧ WF s ∧ SC (x5pkV (ct σ (-1)).toNat σ) s) := by
  intro nn
  induction nn with
  | zero => intro v1 v3 s hv1_0 hv1_1 hv3_0 hv3_1 hF hk0 hk1 hk2 hk3 hk4 hk5 hln hlq hm; exact absurd hm (Nat.not_lt_zero _)
  | succ nn ih =>
    intro v1 v3 s hv1_0 hv1_1 hv3_0 hv3_1 hF hk0 hk1 hk2 hk3 hk4 hk5 hln hlq hm
    refine ra_load rfl rfl rfl rfl ?_
    refine ra_load rfl rfl rfl rfl ?_
    refine ra_icge rfl rfl (by first | omega | (unfold ra_in at *; omega)) (by first | omega | (unfold ra_in at *; omega)) (fun h3 => ?_) (fun h3 => ?_)
    · refine ra_iconst rfl ?_
      refine ra_store (L' := [_, _, _, _, _]) rfl rfl rfl (Nat.le_of_ble_eq_true rfl) rfl ?_
      exact ra_weak (by repeat' constructor) (l5_329_33 hw hw3 hoff _ v1 (0) (0) s (by first | omega | (unfold ra_in at *; omega)) (by first | omega | (unfold ra_in at *; omega)) (by first | omega | (unfold ra_in at *; omega)) rfl (by first | omega | (unfold ra_in at *; omega)) (by first | omega | (unfold ra_in at *; omega)) hF hk1 hk2 hk3 hk4 hk5 (WF_k hk0 hw) (fun p p0 p1 => wq_k hk0) (fun k hk => hln k (by omega)) (SC_k hk0) (fun k hk => hlq k (by omega)) (Nat.lt_succ_self _))
    · refine ra_load rfl rfl rfl rfl ?_
      refine ra_getR rfl lk_8_41 (Nat.zero_le _) sh_179 rfl ?_
      refine ra_load rfl rfl rfl rfl ?_
      refine ra_load rfl rfl rfl rfl ?_
      refine ra_load rfl rfl rfl rfl ?_
      refine ra_cIPp (s8_279 (by first | omega | (unfold ra_in at *; omega)) (WF_k hk0 hw) (by rw [ct_k hk0]; omega)) rfl (ct_279 rfl lk_8_336 (Or.inl rfl) sh_179 (Nat.le_of_ble_eq_true rfl)) (fun z38 hz38 hz38p => ?_)
      have hz38o := hz38p.1
      have hz38q := hz38p.2
      clear hz38p
      have lnx := sta_k hk0 hz38o
      have hlo : x5ordN σ v3.toNat = z38 := by have q9 := hz38q; rw [x5ord_k hk0] at q9; exact q9
      refine ra_iastore rfl sh_189 rfl (by decide) (by first | omega | (unfold ra_in at *; omega)) (by first | omega | (unfold ra_in at *; omega)) ?_
      refine ra_newR hz38 (fun s39 hs39 hs39v hs39o => ?_)
      have hF40 := Fr_tr (lo := 180) (hi := 190) hF hs39 (by omega)
      have hk41 : s39 (180) = σ (180) := (hs39 (180) (by omega)).trans hk0
      have hk42 : s39 (181) = σ (181) := (hs39 (181) (by omega)).trans hk1
      have hk43 : s39 (182) = σ (182) := (hs39 (182) (by omega)).trans hk2
      have hk44 : s39 (183) = σ (183) := (hs39 (183) (by omega)).trans hk3
      have hk45 : s39 (184) = σ (184) := (hs39 (184) (by omega)).trans hk4
      have hk46 : s39 (187) = σ (187) := (hs39 (187) (by omega)).trans hk5
      refine ra_iinc (L' := [_, _, _, _, _]) rfl rfl (Nat.le_of_ble_eq_true rfl) rfl ?_
      refine ra_goto rfl rfl ?_
      exact ra_weak (by repeat' constructor) (ih v1 (v3 + 1) s39 (by first | omega | (unfold ra_in at *; omega)) (by first | omega | (unfold ra_in at *; omega)) (by first | omega | (unfold ra_in at *; omega)) (by first | omega | (unfold ra_in at *; omega)) hF40 hk41 hk42 hk43 hk44 hk45 hk46 (fun k hk => if e : k = v3.toNat then (by rw [e, hs39v]; exact lnx) else (by rw [hs39o k e]; exact hln k (by omega))) (fun k hk => if e : k = v3.toNat then (by rw [e]; exact ⟨hs39v.trans hlo.symm, by rw [hlo]; exact lnx⟩) else (by rw [hs39o k e]; exact hlq k (by omega))) (by first | omega | (unfold ra_in at *; omega)))
theorem s5_329 {n : Nat} {f : Nat → Int32} {d : Nat}  {σ : ra_V} (hw : WF σ) (hw3 : x5W3 σ) (hoff : ra_g σ 180 16 = -1) : ra_C (g_Gs n f) g_sh 0 (d + 11) 329 [.index (179)] σ (fun r9 s => (∃ z, ra_in z ∧ (z = x5pkN (ct σ (-1)).toNat σ) ∧ r9 = .inl (some (ra_I z))) ∧ Fr (180) (190) σ s ∧ s (181) = σ (181) ∧ s (182) = σ (182) ∧ s (183) = σ (183) ∧ s (184) = σ (184) ∧ s (187) = σ (187) ∧ WF s ∧ SC (x5pkV (ct σ (-1)).toNat σ) s) := by
  refine ra_enter (nn := 4) mt_329 rfl (Nat.le_of_ble_eq_true rfl) rfl (fun h => absurd h (by decide +kernel)) ?_
  have hw0 := WF_a hw
  unfold WFa at hw0
  have hcb := ct_b (σ := σ) (c := -1)
  refine ra_load rfl rfl rfl rfl ?_
  refine ra_cIPp (sq_203 (WF_k rfl hw)) rfl (ct_203 rfl lk_8_298 (Or.inl rfl) sh_179 (Nat.le_of_ble_eq_true rfl)) (fun z2 hz2 hz2p => ?_)
  refine ra_store (L' := [_, _, _, _, _]) rfl rfl rfl (Nat.le_of_ble_eq_true rfl) rfl ?_
  refine ra_iconst rfl ?_
  refine ra_store (L' := [_, _, _, _, _]) rfl rfl rfl (Nat.le_of_ble_eq_true rfl) rfl ?_
  refine ra_iconst rfl ?_
  refine ra_store (L' := [_, _, _, _, _]) rfl rfl rfl (Nat.le_of_ble_eq_true rfl) rfl ?_
  exact ra_weak (by repeat' constructor) (l5_329_9 hw hw3 hoff _ z2 (0) σ (by first | omega | (unfold ra_in at *; omega)) (by first | omega | (unfold ra_in at *; omega)) (by first | omega | (unfold ra_in at *; omega)) (by first | omega | (unfold ra_in at *; omega)) Fr_rf rfl rfl rfl rfl rfl rfl (fun k hk => by omega) (fun k hk => by omega) (Nat.lt_succ_self _))
end
