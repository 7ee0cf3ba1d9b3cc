/-! T5: the class packs (printed by wip/gen/c9.py) -/
section
variable {τ : ra_V} {nh : Int} {R : Nat → ra_V} {qq : Nat}
theorem l5_45_50 {n : Nat} {f : Nat → Int32} {d : Nat} {D : Nat} {σ : ra_V} (hD : isD D) (hT : x5CT τ σ D) (hW : x5W2 τ) (hoff : ra_g τ 180 16 = -1) : ∀ (nn : Nat) (v1 : Int) (v2 : Int) (v3 : Int) (s : ra_V) (hv1_0 : v1 = ct τ (-1)) (hv1_1 : 0 ≤ v1 ∧ v1 ≤ 8) (hv2_0 : v2 = x5pkN v3.toNat τ) (hv2_1 : 0 ≤ v2 ∧ v2 ≤ v3) (hv3_0 : 0 ≤ v3) (hv3_1 : v3 ≤ v1) (hF : Fr (D) (D + 13) σ s) (hct2 : x5CT (x5pkV v3.toNat τ) s D) (hor2 : ∀ k : Nat, (k : Int) < v1 → ra_g s (D + 4) k = x5ordN τ k ∧ x5EX τ (x5ordN τ k)) (hm : ((8 - v3 : Int)).toNat < nn), ra_P (g_Gs n f) g_sh 0 (d + 6) g_m_X0_packLeft 50 [some (.index (D)), some (ra_I v1), some (ra_I v2), some (ra_I v3), none, none] [] s (fun r9 s => r9 = .inl (some (ra_I (x5pkN (ct τ (-1)).toNat τ))) ∧ Fr (D) (D + 13) σ s ∧ x5CT (x5pkV (ct τ (-1)).toNat τ) s D) := by
  intro nn
  induction nn with
  | zero => intro v1 v2 v3 s hv1_0 hv1_1 hv2_0 hv2_1 hv3_0 hv3_1 hF hct2 hor2 hm; exact absurd hm (Nat.not_lt_zero _)
  | succ nn ih =>
    intro v1 v2 v3 s hv1_0 hv1_1 hv2_0 hv2_1 hv3_0 hv3_1 hF hct2 hor2 hm
    have hcb := ct_b (σ := τ) (c := -1)
    have hpk := x5pks hW hoff v3.toNat (fun j hj => (hor2 j (by omega)).2)
    have hv3 : v3 < v1 → ra_g s (D + 4) v3.toNat = x5ordN τ v3.toNat ∧ x5EX τ (x5ordN τ v3.toNat) := fun q => hor2 v3.toNat (by omega)
    refine ra_load rfl rfl rfl rfl ?_
    refine ra_load rfl rfl rfl rfl ?_
    refine ra_icge rfl rfl (by first | omega | (unfold ra_in at *; omega)) (by first | omega | (unfold ra_in at *; omega)) (fun h3 => ?_) (fun h3 => ?_)
    · refine ra_load rfl rfl rfl rfl ?_
      exact ra_ireturn rfl rfl ⟨(congrArg (fun z => Sum.inl (some (ra_I z))) (by rw [show (ct τ (-1)).toNat = v3.toNat by omega]; exact hv2_0)), ⟨hF, by rw [show (ct τ (-1)).toNat = v3.toNat by omega]; exact hct2⟩⟩
    · refine ra_load rfl rfl rfl rfl ?_
      refine ra_load rfl rfl rfl rfl ?_
      refine ra_getR rfl lk_0_28 (Nat.zero_le _) (sh_D hD) rfl ?_
      refine ra_alen rfl (sh_D4 hD) rfl ?_
      refine ra_icge rfl rfl (by first | omega | (unfold ra_in at *; omega)) (by first | omega | (unfold ra_in at *; omega)) (fun h4 => ?_) (fun h4 => ?_)
      · refine ra_load rfl rfl rfl rfl ?_
        exact ra_ireturn rfl rfl ⟨(congrArg (fun z => Sum.inl (some (ra_I z))) (by rw [show (ct τ (-1)).toNat = v3.toNat by omega]; exact hv2_0)), ⟨hF, by rw [show (ct τ (-1)).toNat = v3.toNat by omega]; exact hct2⟩⟩
      · refine ra_load rfl rfl rfl rfl ?_
        refine ra_load rfl rfl rfl rfl ?_
        refine ra_getR rfl lk_0_28 (Nat.zero_le _) (sh_D hD) rfl ?_
        refine ra_load rfl rfl rfl rfl ?_
        refine ra_iaload rfl (sh_D4 hD) rfl (by decide) (by first | omega | (unfold ra_in at *; omega)) (by first | omega | (unfold ra_in at *; omega)) ?_
        have hr5 : ra_in (ra_g s (D + 4) v3.toNat) := (ra_in_g _ _ _)
        refine x5cPCp (s5_3 hD hr5 hct2) rfl (ct_3 rfl lk_0_186 (Or.inl rfl) (sh_D hD) (Nat.le_of_ble_eq_true rfl)) (fun hj7n => ?_) (fun j7 hj7 hj7b => ?_)
        · refine ra_store (L' := [_, _, _, _, _, _]) rfl rfl rfl (Nat.le_of_ble_eq_true rfl) rfl ?_
          refine ra_load rfl rfl rfl rfl ?_
          refine ra_nnullF rfl rfl ?_
          have hnul : (0 : Int) = 1 := by exfalso; have q9 := hv3 (by omega); refine hj7n ?_; rw [q9.1]; exact ⟨q9.2.1, q9.2.2.1, (hpk.2.2 _ q9.2.1 q9.2.2.1).trans q9.2.2.2⟩
          refine ra_iconst rfl ?_
          refine ra_goto rfl rfl ?_
          refine ra_store (L' := [_, _, _, _, _, _]) rfl rfl rfl (Nat.le_of_ble_eq_true rfl) rfl ?_
          refine ra_load rfl rfl rfl rfl ?_
          refine ra_iconst rfl ?_
          refine ra_iceq rfl rfl (by first | omega | (unfold ra_in at *; omega)) (by first | omega | (unfold ra_in at *; omega)) (fun h8 => ?_) (fun h8 => ?_)
          · refine ra_iinc (L' := [_, _, _, _, _, _]) rfl rfl (Nat.le_of_ble_eq_true rfl) rfl ?_
            refine ra_goto rfl rfl ?_
            exact ra_weak (by repeat' constructor) (ih v1 v2 (v3 + 1) s (by first | omega | (unfold ra_in at *; omega)) (by first | omega | (unfold ra_in at *; omega)) (by exfalso; omega) (by first | omega | (unfold ra_in at *; omega)) (by first | omega | (unfold ra_in at *; omega)) (by first | omega | (unfold ra_in at *; omega)) hF (by exfalso; omega) (by exfalso; omega) (by first | omega | (unfold ra_in at *; omega)))
          · exact absurd h8 (by decide)
        · refine ra_store (L' := [_, _, _, _, _, _]) rfl rfl rfl (Nat.le_of_ble_eq_true rfl) rfl ?_
          refine ra_load rfl rfl rfl rfl ?_
          refine ra_nnullT rfl rfl ?_
          have ej : (j7 : Int) = x5ordN τ v3.toNat := hj7b.1.trans (hv3 (by omega)).1
          have heJ : wq (x5pkV v3.toNat τ) (j7 : Int) 0 = 1 := by rw [hj7b.1]; exact hj7b.2
          have hWA := WF_a hpk.1.1
          unfold WFa at hWA
          have hWP := WF_p hpk.1.1 (p := (j7 : Int)) (by omega) (by omega) heJ
          refine ra_load rfl rfl rfl rfl ?_
          refine ra_load rfl rfl rfl rfl ?_
          refine ra_cIPp (s5_43 hD hj7 hct2 hpk.1 heJ) rfl (ct_43 rfl lk_0_270 (Or.inl rfl) (sh_D hD) (Nat.le_of_ble_eq_true rfl)) (fun z10 hz10 hz10p => ?_)
          refine ra_store (L' := [_, _, _, _, _, _]) rfl rfl rfl (Nat.le_of_ble_eq_true rfl) rfl ?_
          have hls : z10 = x5lstF (x5pkV v3.toNat τ) (x5ordN τ v3.toNat) := by rw [← ej]; exact x5lst_0 (by omega) hz10p (Or.inr rfl)
          refine ra_load rfl rfl rfl rfl ?_
          refine ra_iconst rfl ?_
          refine ra_iceq rfl rfl hz10 (by first | omega | (unfold ra_in at *; omega)) (fun h11 => ?_) (fun h11 => ?_)
          · refine ra_iinc (L' := [_, _, _, _, _, _]) rfl rfl (Nat.le_of_ble_eq_true rfl) rfl ?_
            refine ra_goto rfl rfl ?_
            exact ra_weak (by repeat' constructor) (ih v1 v2 (v3 + 1) s (by first | omega | (unfold ra_in at *; omega)) (by first | omega | (unfold ra_in at *; omega)) (by rw [show (v3 + 1).toNat = v3.toNat + 1 by omega]; rw [(x5pk_n (by rw [← hls]; omega)).2]; exact hv2_0) (by first | omega | (unfold ra_in at *; omega)) (by first | omega | (unfold ra_in at *; omega)) (by first | omega | (unfold ra_in at *; omega)) hF (by rw [show (v3 + 1).toNat = v3.toNat + 1 by omega]; rw [(x5pk_n (by rw [← hls]; omega)).1]; exact hct2) hor2 (by first | omega | (unfold ra_in at *; omega)))
          · have hlb := x5ls_b hz10p (by omega)
            have hbg := x5w2_bg hpk.1 (⟨by omega, by omega, heJ⟩ : x5EX (x5pkV v3.toNat τ) (j7 : Int)) hlb.2.2
            have hlb1 := hlb.1
            have hlb2 := hlb.2.1
            refine ra_load rfl rfl rfl rfl ?_
            refine ra_load rfl rfl rfl rfl ?_
            refine ra_load rfl rfl rfl rfl ?_
            refine ra_cV (s5_36 hD hj7 hz10 hct2 hpk.1 heJ ⟨by omega, by omega⟩) rfl (ct_36 rfl lk_0_274 (Or.inl rfl) (sh_D hD) (Nat.le_of_ble_eq_true rfl)) (fun s12 hs12 => ?_)
            obtain ⟨hf13, he14⟩ := hs12
            have hF15 := Fr_tr (lo := D) (hi := D + 13) hF hf13 (by omega)
            refine ra_load rfl rfl rfl rfl ?_
            refine ra_sipush rfl (by decide) ?_
            refine ra_cI (s8_37 hD (by first | omega | (unfold ra_in at *; omega)) he14 hbg.1 (by decide)) rfl (ct_37 rfl lk_0_277 (Or.inl rfl) (sh_D hD) (Nat.le_of_ble_eq_true rfl)) (fun z17 s16  hz17 hs16 => ?_)
            obtain ⟨hf18, he19, he20⟩ := hs16
            have hF21 := Fr_tr (lo := D) (hi := D + 13) hF15 hf18 (by omega)
            refine ra_pop rfl rfl ?_
            refine ra_iinc (L' := [_, _, _, _, _, _]) rfl rfl (Nat.le_of_ble_eq_true rfl) rfl ?_
            refine ra_iinc (L' := [_, _, _, _, _, _]) rfl rfl (Nat.le_of_ble_eq_true rfl) rfl ?_
            refine ra_goto rfl rfl ?_
            exact ra_weak (by repeat' constructor) (ih v1 (v2 + 1) (v3 + 1) s16 (by first | omega | (unfold ra_in at *; omega)) (by first | omega | (unfold ra_in at *; omega)) (by rw [show (v3 + 1).toNat = v3.toNat + 1 by omega]; rw [(x5pk_y (by rw [← hls]; omega)).2]; omega) (by first | omega | (unfold ra_in at *; omega)) (by first | omega | (unfold ra_in at *; omega)) (by first | omega | (unfold ra_in at *; omega)) hF21 (by rw [show (v3 + 1).toNat = v3.toNat + 1 by omega]; rw [(x5pk_y (by rw [← hls]; omega)).1, ← hls, ← ej]; exact he19) (fun k hk => ⟨(ra_gk (he20.trans (hf13 (D + 4) (by omega)))).trans (hor2 k hk).1, (hor2 k hk).2⟩) (by first | omega | (unfold ra_in at *; omega)))
theorem l5_45_8 {n : Nat} {f : Nat → Int32} {d : Nat} {D : Nat} {σ : ra_V} (hD : isD D) (hT : x5CT τ σ D) (hW : x5W2 τ) (hoff : ra_g τ 180 16 = -1) : ∀ (nn : Nat) (v1 : Int) (t2 : Jvm.Term) (s : ra_V) (hv1_0 : 0 ≤ v1) (hv1_1 : v1 ≤ 8) (hv1_2 : v1 ≤ ct τ (-1)) (ht2 : (t2 = .null ∧ (v1 = ct τ (-1))) ∨ ∃ i : Nat, i < 8 ∧ (x5ordN τ v1.toNat = (i : Int) ∧ wq τ i 0 = 1 ∧ v1 < ct τ (-1) ∧ ct τ (wq τ i 1) = ct τ (-1) - v1 - 1) ∧ t2 = .index (D + 5 + i)) (hF : Fr (D) (D + 13) σ s) (hct : x5CT τ s D) (hor : ∀ k : Nat, (k : Int) < v1 → ra_g s (D + 4) k = x5ordN τ k ∧ x5EX τ (x5ordN τ k)) (hm : ((8 - v1 : Int)).toNat < nn), ra_P (g_Gs n f) g_sh 0 (d + 6) g_m_X0_packLeft 8 [some (.index (D)), some (ra_I v1), some (t2), none, none, none] [] s (fun r9 s => r9 = .inl (some (ra_I (x5pkN (ct τ (-1)).toNat τ))) ∧ Fr (D) (D + 13) σ s ∧ x5CT (x5pkV (ct τ (-1)).toNat τ) s D) := by
  intro nn
  induction nn with
  | zero => intro v1 t2 s hv1_0 hv1_1 hv1_2 ht2 hF hct hor hm; exact absurd hm (Nat.not_lt_zero _)
  | succ nn ih =>
    intro v1 t2 s hv1_0 hv1_1 hv1_2 ht2 hF hct hor hm
    have hcb := ct_b (σ := τ) (c := -1)
    rcases ht2 with ⟨rfl, ht2n⟩ | ⟨p2, hp2, ht2b, rfl⟩
    · refine ra_load rfl rfl rfl rfl ?_
      refine ra_nullT rfl rfl ?_
      refine ra_iconst rfl ?_
      refine ra_store (L' := [_, _, _, _, _, _]) rfl rfl rfl (Nat.le_of_ble_eq_true rfl) rfl ?_
      refine ra_iconst rfl ?_
      refine ra_store (L' := [_, _, _, _, _, _]) rfl rfl rfl (Nat.le_of_ble_eq_true rfl) rfl ?_
      exact ra_weak (by repeat' constructor) (l5_45_50 hD hT hW hoff _ v1 (0) (0) s (by first | omega | (unfold ra_in at *; omega)) (by first | omega | (unfold ra_in at *; omega)) rfl (by first | omega | (unfold ra_in at *; omega)) (by first | omega | (unfold ra_in at *; omega)) (by first | omega | (unfold ra_in at *; omega)) hF hct (fun k hk => hor k (by omega)) (Nat.lt_succ_self _))
    · refine ra_load rfl rfl rfl rfl ?_
      refine ra_nullF rfl rfl ?_
      refine ra_load rfl rfl rfl rfl ?_
      refine ra_load rfl rfl rfl rfl ?_
      refine ra_getR rfl lk_0_28 (Nat.zero_le _) (sh_D hD) rfl ?_
      refine ra_alen rfl (sh_D4 hD) rfl ?_
      refine ra_icge rfl rfl (by first | omega | (unfold ra_in at *; omega)) (by first | omega | (unfold ra_in at *; omega)) (fun h22 => ?_) (fun h22 => ?_)
      · refine ra_iconst rfl ?_
        refine ra_store (L' := [_, _, _, _, _, _]) rfl rfl rfl (Nat.le_of_ble_eq_true rfl) rfl ?_
        refine ra_iconst rfl ?_
        refine ra_store (L' := [_, _, _, _, _, _]) rfl rfl rfl (Nat.le_of_ble_eq_true rfl) rfl ?_
        exact ra_weak (by repeat' constructor) (l5_45_50 hD hT hW hoff _ v1 (0) (0) s (by first | omega | (unfold ra_in at *; omega)) (by first | omega | (unfold ra_in at *; omega)) rfl (by first | omega | (unfold ra_in at *; omega)) (by first | omega | (unfold ra_in at *; omega)) (by first | omega | (unfold ra_in at *; omega)) hF hct (fun k hk => hor k (by omega)) (Nat.lt_succ_self _))
      · refine ra_load rfl rfl rfl rfl ?_
        refine ra_getR rfl lk_0_28 (Nat.zero_le _) (sh_D hD) rfl ?_
        refine ra_load rfl rfl rfl rfl ?_
        refine ra_load rfl rfl rfl rfl ?_
        refine ra_getK rfl lk_0_91 (Nat.zero_le _) (sh_P hD hp2) rfl ?_
        refine ra_iastore rfl (sh_D4 hD) rfl (by decide) (by first | omega | (unfold ra_in at *; omega)) (by first | omega | (unfold ra_in at *; omega)) ?_
        refine ra_newR (by first | omega | (unfold ra_in at *; omega)) (fun s23 hs23 hs23v hs23o => ?_)
        have hF24 := Fr_tr (lo := D) (hi := D + 13) hF hs23 (by omega)
        refine ra_iinc (L' := [_, _, _, _, _, _]) rfl rfl (Nat.le_of_ble_eq_true rfl) rfl ?_
        have hst : ra_g s23 (D + 5 + p2) 1 = wq τ p2 1 := (x5CT_p (x5CT_e4 (fun c c1 c2 c3 c4 => (hs23 c (by omega))) hct) (p := p2) hp2 ht2b.2.1).1
        refine ra_load rfl rfl rfl rfl ?_
        refine ra_load rfl rfl rfl rfl ?_
        refine ra_getI rfl lk_0_85 (Nat.zero_le _) (sh_P hD hp2) rfl ?_
        have hr25 : ra_in (ra_g s23 (D + 5 + p2) 1) := (ra_in_g _ _ _)
        refine x5cPCp (s5_6 hD hr25 (x5CT_e4 (fun c c1 c2 c3 c4 => (hs23 c (by omega))) hct) hW) rfl (ct_6 rfl lk_0_125 (Or.inl rfl) (sh_D hD) (Nat.le_of_ble_eq_true rfl)) (fun hj27n => ?_) (fun j27 hj27 hj27b => ?_)
        · refine ra_store (L' := [_, _, _, _, _, _]) rfl rfl rfl (Nat.le_of_ble_eq_true rfl) rfl ?_
          refine ra_goto rfl rfl ?_
          exact ra_weak (by repeat' constructor) (ih (v1 + 1) _ s23 (by first | omega | (unfold ra_in at *; omega)) (by first | omega | (unfold ra_in at *; omega)) (by first | omega | (unfold ra_in at *; omega)) (Or.inl ⟨rfl, (by have q9 := ((x5oq_s (k := v1.toNat) hW.1 ht2b.1 (by omega) (by rw [show ((v1.toNat : Nat) : Int) = v1 by omega]; exact ht2b.2.2.2) (by rw [← hst]; exact hj27n)).1 rfl).1; omega)⟩) hF24 (x5CT_e4 (fun c c1 c2 c3 c4 => (hs23 c (by omega))) hct) (fun k hk => if e : k = v1.toNat then (by rw [e]; exact ⟨hs23v.trans ht2b.1.symm, by rw [ht2b.1]; exact ⟨by omega, by omega, ht2b.2.1⟩⟩) else (by have q9 := hor k (by omega); exact ⟨(hs23o k e).trans q9.1, q9.2⟩)) (by first | omega | (unfold ra_in at *; omega)))
        · refine ra_store (L' := [_, _, _, _, _, _]) rfl rfl rfl (Nat.le_of_ble_eq_true rfl) rfl ?_
          refine ra_goto rfl rfl ?_
          exact ra_weak (by repeat' constructor) (ih (v1 + 1) _ s23 (by first | omega | (unfold ra_in at *; omega)) (by first | omega | (unfold ra_in at *; omega)) (by first | omega | (unfold ra_in at *; omega)) (Or.inr ⟨_, hj27, (by have q9 := (x5oq_s (k := v1.toNat) hW.1 ht2b.1 (by omega) (by rw [show ((v1.toNat : Nat) : Int) = v1 by omega]; exact ht2b.2.2.2) (by rw [← hst]; exact hj27b)).2 (by omega); rw [show (v1 + 1).toNat = v1.toNat + 1 by omega]; rw [show ((v1.toNat + 1 : Nat) : Int) = v1 + 1 by omega] at q9; exact q9), rfl⟩) hF24 (x5CT_e4 (fun c c1 c2 c3 c4 => (hs23 c (by omega))) hct) (fun k hk => if e : k = v1.toNat then (by rw [e]; exact ⟨hs23v.trans ht2b.1.symm, by rw [ht2b.1]; exact ⟨by omega, by omega, ht2b.2.1⟩⟩) else (by have q9 := hor k (by omega); exact ⟨(hs23o k e).trans q9.1, q9.2⟩)) (by first | omega | (unfold ra_in at *; omega)))
theorem s5_45 {n : Nat} {f : Nat → Int32} {d : Nat} {D : Nat} {σ : ra_V} (hD : isD D) (hT : x5CT τ σ D) (hW : x5W2 τ) (hoff : ra_g τ 180 16 = -1) : ra_C (g_Gs n f) g_sh 0 (d + 7) 45 [.index (D)] σ (fun r9 s => r9 = .inl (some (ra_I (x5pkN (ct τ (-1)).toNat τ))) ∧ Fr (D) (D + 13) σ s ∧ x5CT (x5pkV (ct τ (-1)).toNat τ) s D) := by
  refine ra_enter (nn := 5) mt_45 rfl (Nat.le_of_ble_eq_true rfl) rfl (fun h => absurd h (by decide +kernel)) ?_
  have hcb := ct_b (σ := τ) (c := -1)
  refine ra_iconst rfl ?_
  refine ra_store (L' := [_, _, _, _, _, _]) rfl rfl rfl (Nat.le_of_ble_eq_true rfl) rfl ?_
  refine ra_load rfl rfl rfl rfl ?_
  refine ra_iconst rfl ?_
  refine x5cPCp (s5_6 hD (by first | omega | (unfold ra_in at *; omega)) hT hW) rfl (ct_6 rfl lk_0_125 (Or.inl rfl) (sh_D hD) (Nat.le_of_ble_eq_true rfl)) (fun hj2n => ?_) (fun j2 hj2 hj2b => ?_)
  · refine ra_store (L' := [_, _, _, _, _, _]) rfl rfl rfl (Nat.le_of_ble_eq_true rfl) rfl ?_
    exact ra_weak (by repeat' constructor) (l5_45_8 hD hT hW hoff _ (0) _ σ (by first | omega | (unfold ra_in at *; omega)) (by first | omega | (unfold ra_in at *; omega)) (by first | omega | (unfold ra_in at *; omega)) (Or.inl ⟨rfl, ((x5oq_0 hW.1 hj2n).1 rfl).1⟩) Fr_rf hT (fun k hk => by omega) (Nat.lt_succ_self _))
  · refine ra_store (L' := [_, _, _, _, _, _]) rfl rfl rfl (Nat.le_of_ble_eq_true rfl) rfl ?_
    exact ra_weak (by repeat' constructor) (l5_45_8 hD hT hW hoff _ (0) _ σ (by first | omega | (unfold ra_in at *; omega)) (by first | omega | (unfold ra_in at *; omega)) (by first | omega | (unfold ra_in at *; omega)) (Or.inr ⟨_, hj2, (by have q9 := (x5oq_0 hW.1 hj2b).2 (by omega); exact ⟨q9.1, q9.2.1, q9.2.2.1, by omega⟩), rfl⟩) Fr_rf hT (fun k hk => by omega) (Nat.lt_succ_self _))
end
