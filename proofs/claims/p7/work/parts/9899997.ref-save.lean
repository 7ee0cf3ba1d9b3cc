/-! T5: what the reference changes (printed by wip/gen/r6.py) -/
section
theorem s5_321 {n : Nat} {f : Nat → Int32} {d : Nat}  {σ : ra_V} (hw : WF σ) (hpw : PW σ) : ra_C (g_Gs n f) g_sh 0 (d + 4) 321 [.index (179)] σ (fun r9 s => (∃ z, ra_in z ∧ (x5RO (x5dcTb σ) (fun _ => True) (x5tbV σ) σ s z) ∧ r9 = .inl (some (ra_I z))) ∧ Fr (179) (191) σ s ∧ s (183) = σ (183) ∧ s (187) = σ (187) ∧ (∀ a, a ≠ 5 → a ≠ 7 → a ≠ 10 → ra_g s 179 a = ra_g σ 179 a) ∧ WF s ∧ PW s) := by
  refine ra_enter (nn := 1) mt_321 rfl (Nat.le_of_ble_eq_true rfl) rfl (fun h => absurd h (by decide +kernel)) ?_
  have hw0 := WF_a hw
  unfold WFa at hw0
  refine ra_load rfl rfl rfl rfl ?_
  refine ra_iconst rfl ?_
  refine ra_putI rfl lk_8_51 (Nat.zero_le _) sh_179 rfl rfl ?_
  refine ra_newU (by first | omega | (unfold ra_in at *; omega)) (fun s1 hs1 hp2 hp2o => ?_)
  have hp2_99 := hp2o 99 (by decide)
  have hF3 := Fr_tr (lo := 179) (hi := 191) Fr_rf hs1 (by omega)
  have hk4 : s1 (180) = σ (180) := (hs1 (180) (by omega))
  have hk5 : s1 (183) = σ (183) := (hs1 (183) (by omega))
  have hk6 : s1 (184) = σ (184) := (hs1 (184) (by omega))
  have hk7 : s1 (187) = σ (187) := (hs1 (187) (by omega))
  have hg8 : ∀ a, a ≠ 5 → a ≠ 7 → a ≠ 10 → ra_g s1 179 a = ra_g σ 179 a := fun a h5 h7 h10 => ((fun a h7 h10 => hp2o a h7) a h7 h10).trans ((fun _ _ _ _ => rfl) a h5 h7 h10)
  have ho9 : ∀ a, a ≠ 7 → a ≠ 10 → ra_g s1 179 a = ra_g σ 179 a := fun a h7 h10 => ((fun a h7 h10 => hp2o a h7) a h7 h10).trans ((fun _ _ _ => rfl) a h7 h10)
  refine ra_load rfl rfl rfl rfl ?_
  refine ra_load rfl rfl rfl rfl ?_
  refine ra_cQPp (sp_204 ) rfl (ct_204 rfl lk_8_95 (Or.inl rfl) sh_179 (Nat.le_of_ble_eq_true rfl)) (fun z11 hz11 hz11p => ?_)
  refine ra_ifeq rfl rfl (ra_in01 hz11) (fun h12 => ?_) (fun h12 => ?_)
  · refine ra_iconst rfl ?_
    refine ra_goto rfl rfl ?_
    refine ra_iconst rfl ?_
    refine ra_cT (s5_194 (Or.inr rfl) (by first | omega | (unfold ra_in at *; omega))) rfl (ct_194 rfl lk_8_303 (Or.inl rfl) sh_179 (Nat.le_of_ble_eq_true rfl)) (fun s13 hs13 => ?_)
    obtain ⟨hf14, he15, he16⟩ := hs13
    have hF17 := Fr_tr (lo := 179) (hi := 191) hF3 hf14 (by omega)
    have hk18 : s13 (180) = σ (180) := (hf14 (180) (by omega)).trans hk4
    have hk19 : s13 (183) = σ (183) := (hf14 (183) (by omega)).trans hk5
    have hk20 : s13 (184) = σ (184) := (hf14 (184) (by omega)).trans hk6
    have hk21 : s13 (187) = σ (187) := (hf14 (187) (by omega)).trans hk7
    have hg22 : ∀ a, a ≠ 5 → a ≠ 7 → a ≠ 10 → ra_g s13 179 a = ra_g σ 179 a := fun a h5 h7 h10 => ((fun a h7 h10 => he15 a h7) a h7 h10).trans (hg8 a h5 h7 h10)
    have ho23 : ∀ a, a ≠ 7 → a ≠ 10 → ra_g s13 179 a = ra_g σ 179 a := fun a h7 h10 => ((fun a h7 h10 => he15 a h7) a h7 h10).trans (ho9 a h7 h10)
    refine ra_ifeq rfl rfl (by first | omega | (unfold ra_in at *; omega)) (fun h24 => ?_) (fun h24 => ?_)
    · exact absurd h24 (by decide)
    · refine ra_iconst rfl ?_
      exact ra_ireturn rfl rfl ⟨⟨_, (by first | omega | (unfold ra_in at *; omega)), (x5roF (k := 1) (by first | exact (x5cif_y (by have q9 := hz11p; rw [ra_gk hk4] at q9; omega)) | exact ((x5cif_n (by have q9 := hz11p; rw [ra_gk hk4] at q9; omega)).trans (x5cif_y (by have q8 : ra_g s1 180 22 = ra_g σ 180 22 := ra_gk hk4; omega)))) (by decide) (he16.1 rfl) hk18 (ho23 5 (by decide) (by decide)) hk20), rfl⟩, ⟨hF17, hk19, hk21, hg22, (WF_k hk18 hw), (PW_k hpw (ho23 5 (by decide) (by decide)) hk20)⟩⟩
  · refine ra_load rfl rfl rfl rfl ?_
    refine ra_getR rfl lk_8_7 (Nat.zero_le _) sh_179 rfl ?_
    refine ra_bipush rfl (by decide) ?_
    refine ra_ialoadJ (j := 22) rfl sh_180 rfl (by decide) rfl (by decide) ?_
    rw [ra_gk hk4]
    have hr25 : ra_in (ra_g σ (180) 22) := (ra_in_g _ _ _)
    refine ra_iconst rfl ?_
    refine ra_icne rfl rfl hr25 (by first | omega | (unfold ra_in at *; omega)) (fun h26 => ?_) (fun h26 => ?_)
    · refine ra_iconst rfl ?_
      refine ra_iconst rfl ?_
      refine ra_cT (s5_194 (Or.inl rfl) (by first | omega | (unfold ra_in at *; omega))) rfl (ct_194 rfl lk_8_303 (Or.inl rfl) sh_179 (Nat.le_of_ble_eq_true rfl)) (fun s27 hs27 => ?_)
      obtain ⟨hf28, he29, he30⟩ := hs27
      have hF31 := Fr_tr (lo := 179) (hi := 191) hF3 hf28 (by omega)
      have hk32 : s27 (180) = σ (180) := (hf28 (180) (by omega)).trans hk4
      have hk33 : s27 (183) = σ (183) := (hf28 (183) (by omega)).trans hk5
      have hk34 : s27 (184) = σ (184) := (hf28 (184) (by omega)).trans hk6
      have hk35 : s27 (187) = σ (187) := (hf28 (187) (by omega)).trans hk7
      have hg36 : ∀ a, a ≠ 5 → a ≠ 7 → a ≠ 10 → ra_g s27 179 a = ra_g σ 179 a := fun a h5 h7 h10 => ((fun a h7 h10 => he29 a h7) a h7 h10).trans (hg8 a h5 h7 h10)
      have ho37 : ∀ a, a ≠ 7 → a ≠ 10 → ra_g s27 179 a = ra_g σ 179 a := fun a h7 h10 => ((fun a h7 h10 => he29 a h7) a h7 h10).trans (ho9 a h7 h10)
      refine ra_ifeq rfl rfl (by first | omega | (unfold ra_in at *; omega)) (fun h38 => ?_) (fun h38 => ?_)
      · refine ra_load rfl rfl rfl rfl ?_
        have hb0 : s27 180 = σ 180 := hk32
        have hb4 : s27 184 = σ 184 := hk34
        have hb5 : ra_g s27 179 5 = ra_g σ 179 5 := ho37 5 (by decide) (by decide)
        refine ra_cV (s5_197 (WF_k hk32 hw) (PW_k hpw (ho37 5 (by decide) (by decide)) hk34)) rfl (ct_197 rfl lk_8_366 (Or.inl rfl) sh_179 (Nat.le_of_ble_eq_true rfl)) (fun s39 hs39 => ?_)
        obtain ⟨hf40, hc41, hc42, hc43, hc44, he45, he46, he47⟩ := hs39
        have hF48 := Fr_tr (lo := 179) (hi := 191) hF31 hf40 (by omega)
        have hk49 : s39 (180) = σ (180) := hc41.trans hk32
        have hk50 : s39 (183) = σ (183) := hc44.trans hk33
        have hk51 : s39 (187) = σ (187) := (hf40 (187) (by omega)).trans hk35
        have hg52 : ∀ a, a ≠ 5 → a ≠ 7 → a ≠ 10 → ra_g s39 179 a = ra_g σ 179 a := fun a h5 h7 h10 => ((fun a h5 h7 h10 => he45 a h5) a h5 h7 h10).trans (hg36 a h5 h7 h10)
        have hmv0 := hz11p.mp (by omega)
        rw [ra_gk hk4] at hmv0
        have hmv : ra_g s39 180 16 ≠ -1 := by rw [ra_gk hk49]; exact hmv0
        refine ra_load rfl rfl rfl rfl ?_
        refine ra_getR rfl lk_8_7 (Nat.zero_le _) sh_179 rfl ?_
        refine ra_bipush rfl (by decide) ?_
        refine ra_ialoadJ (j := 21) rfl sh_180 rfl (by decide) rfl (by decide) ?_
        rw [ra_gk hk49]
        have hr53 : ra_in (ra_g σ (180) 21) := (ra_in_g _ _ _)
        refine ra_ifne rfl rfl hr53 (fun h54 => ?_) (fun h54 => ?_)
        · refine ra_load rfl rfl rfl rfl ?_
          refine ra_getR rfl lk_8_7 (Nat.zero_le _) sh_179 rfl ?_
          refine ra_bipush rfl (by decide) ?_
          refine ra_ialoadJ (j := 17) rfl sh_180 rfl (by decide) rfl (by decide) ?_
          rw [ra_gk hk49]
          have hr55 : ra_in (ra_g σ (180) 17) := (ra_in_g _ _ _)
          refine ra_store (L' := [_, _]) rfl rfl rfl (Nat.le_of_ble_eq_true rfl) rfl ?_
          refine ra_load rfl rfl rfl rfl ?_
          refine ra_getR rfl lk_8_7 (Nat.zero_le _) sh_179 rfl ?_
          refine ra_bipush rfl (by decide) ?_
          refine ra_load rfl rfl rfl rfl ?_
          refine ra_cTp (sp_228 (MV_f (WF_k hk49 hw) hmv)) rfl (ct_228 rfl lk_8_150 (Or.inl rfl) sh_179 (Nat.le_of_ble_eq_true rfl)) ?_
          have hm57 := (MV_f (WF_k hk49 hw) hmv)
          unfold MF at hm57
          have hr58 : ra_in (rch s39) := (by first | omega | (unfold ra_in at *; omega))
          refine ra_load rfl rfl rfl rfl ?_
          refine ra_getR rfl lk_8_7 (Nat.zero_le _) sh_179 rfl ?_
          refine ra_bipush rfl (by decide) ?_
          have e21 : ra_g s39 180 21 = ra_g σ 180 21 := ra_gk hk49
          refine ra_ialoadJ (j := 21) rfl sh_180 rfl (by decide) rfl (by decide) ?_
          rw [ra_gk hk49]
          have hr59 : ra_in (ra_g σ (180) 21) := (ra_in_g _ _ _)
          refine ra_isub rfl ?_
          refine ra_iastoreJ (j := 21) rfl sh_180 rfl (by decide) rfl (by decide) ?_
          refine ra_newR (by first | omega | (unfold ra_in at *; omega)) (fun s60 hs60 hs60v hs60o => ?_)
          have hF61 := Fr_tr (lo := 179) (hi := 191) hF48 hs60 (by omega)
          have hk62 : s60 (183) = σ (183) := (hs60 (183) (by omega)).trans hk50
          have hk63 : s60 (187) = σ (187) := (hs60 (187) (by omega)).trans hk51
          have hg64 : ∀ a, a ≠ 5 → a ≠ 7 → a ≠ 10 → ra_g s60 179 a = ra_g σ 179 a := fun a h5 h7 h10 => (ra_gk (hs60 179 (by omega))).trans (hg52 a h5 h7 h10)
          refine ra_load rfl rfl rfl rfl ?_
          refine ra_getR rfl lk_8_7 (Nat.zero_le _) sh_179 rfl ?_
          refine ra_bipush rfl (by decide) ?_
          refine ra_load rfl rfl rfl rfl ?_
          refine ra_getR rfl lk_8_7 (Nat.zero_le _) sh_179 rfl ?_
          refine ra_bipush rfl (by decide) ?_
          refine ra_ialoadJ (j := 18) rfl sh_180 rfl (by decide) rfl (by decide) ?_
          have hr65 : ra_in (ra_g s60 (180) 18) := (ra_in_g _ _ _)
          refine ra_iastoreJ (j := 17) rfl sh_180 rfl (by decide) rfl (by decide) ?_
          refine ra_newR hr65 (fun s66 hs66 hs66v hs66o => ?_)
          have hF67 := Fr_tr (lo := 179) (hi := 191) hF61 hs66 (by omega)
          have hk68 : s66 (183) = σ (183) := (hs66 (183) (by omega)).trans hk62
          have hk69 : s66 (187) = σ (187) := (hs66 (187) (by omega)).trans hk63
          have hg70 : ∀ a, a ≠ 5 → a ≠ 7 → a ≠ 10 → ra_g s66 179 a = ra_g σ 179 a := fun a h5 h7 h10 => (ra_gk (hs66 179 (by omega))).trans (hg64 a h5 h7 h10)
          refine ra_load rfl rfl rfl rfl ?_
          refine ra_getR rfl lk_8_7 (Nat.zero_le _) sh_179 rfl ?_
          refine ra_bipush rfl (by decide) ?_
          refine ra_load rfl rfl rfl rfl ?_
          refine ra_iastoreJ (j := 18) rfl sh_180 rfl (by decide) rfl (by decide) ?_
          refine ra_newR hr55 (fun s71 hs71 hs71v hs71o => ?_)
          have hF72 := Fr_tr (lo := 179) (hi := 191) hF67 hs71 (by omega)
          have hk73 : s71 (183) = σ (183) := (hs71 (183) (by omega)).trans hk68
          have hk74 : s71 (187) = σ (187) := (hs71 (187) (by omega)).trans hk69
          have hg75 : ∀ a, a ≠ 5 → a ≠ 7 → a ≠ 10 → ra_g s71 179 a = ra_g σ 179 a := fun a h5 h7 h10 => (ra_gk (hs71 179 (by omega))).trans (hg70 a h5 h7 h10)
          have e16 : ra_g s71 180 16 = ra_g σ 180 16 := (hs71o 16 (by decide)).trans ((hs66o 16 (by decide)).trans ((hs60o 16 (by decide)).trans (ra_gk hk49)))
          refine ra_load rfl rfl rfl rfl ?_
          refine ra_load rfl rfl rfl rfl ?_
          refine ra_getR rfl lk_8_7 (Nat.zero_le _) sh_179 rfl ?_
          refine ra_bipush rfl (by decide) ?_
          refine ra_ialoadJ (j := 16) rfl sh_180 rfl (by decide) rfl (by decide) ?_
          have hr76 : ra_in (ra_g s71 (180) 16) := (ra_in_g _ _ _)
          refine ra_iconst rfl ?_
          refine ra_load rfl rfl rfl rfl ?_
          refine ra_getR rfl lk_8_7 (Nat.zero_le _) sh_179 rfl ?_
          refine ra_bipush rfl (by decide) ?_
          refine ra_ialoadJ (j := 17) rfl sh_180 rfl (by decide) rfl (by decide) ?_
          have hr77 : ra_in (ra_g s71 (180) 17) := (ra_in_g _ _ _)
          refine ra_cV (sp_201 hr76 (by first | omega | (unfold ra_in at *; omega)) hr77 (by first | assumption | rfl | omega)) rfl (ct_201 rfl lk_8_78 (Or.inl rfl) sh_179 (Nat.le_of_ble_eq_true rfl)) (fun s78 hs78 => ?_)
          obtain ⟨hf79, he80, he81⟩ := hs78
          have hF82 := Fr_tr (lo := 179) (hi := 191) hF72 hf79 (by omega)
          have hk83 : s78 (183) = σ (183) := (hf79 (183) (by omega)).trans hk73
          have hk84 : s78 (187) = σ (187) := (hf79 (187) (by omega)).trans hk74
          have hg85 : ∀ a, a ≠ 5 → a ≠ 7 → a ≠ 10 → ra_g s78 179 a = ra_g σ 179 a := fun a h5 h7 h10 => (ra_gk (hf79 179 (by omega))).trans (hg75 a h5 h7 h10)
          have tb := tb_c (WF_k hk49 hw) hmv (by rw [ra_gk hk49]; omega) (by have t := hs60v; have t2 : ra_g s39 180 21 = ra_g σ 180 21 := ra_gk hk49; omega) hs60o hs66v hs66o (hs71v.trans (ra_gk hk49).symm) hs71o rfl he80 he81
          refine ra_load rfl rfl rfl rfl ?_
          refine ra_cIp (sp_235 (MV_f tb.1 (by rw [tb.2]; exact hmv))) rfl (ct_235 rfl lk_8_394 (Or.inl rfl) sh_179 (Nat.le_of_ble_eq_true rfl)) (fun z87 hz87 => ?_)
          exact ra_ireturn rfl rfl ⟨⟨_, hz87, (x5roY ((x5cif_n (by have q9 := hz11p; rw [ra_gk hk4] at q9; omega)).trans (x5cif_n (by have q8 : ra_g s1 180 22 = ra_g σ 180 22 := ra_gk hk4; omega))) ((ra_gk (hf79 (179) (by omega))).trans ((ra_gk (hs71 (179) (by omega))).trans ((ra_gk (hs66 (179) (by omega))).trans ((ra_gk (hs60 (179) (by omega))).trans ((he45 7 (by decide)).trans ((he30.2 rfl).trans hp2)))))) trivial (by rw [show x5tbV σ = _ from if_neg (by have q9 := (show ra_g s39 180 21 = ra_g σ 180 21 from ra_gk hk49); omega)]; exact (x5sc_up (x5sc_up (x5sc_up (x5sc_up (SC_tr (SC_tr (SC_tr SC_rf (SC_k (hs1 180 (by omega)))) (SC_k (hf28 180 (by omega)))) (SC_k hc41)) (hs60v.trans (by first | rfl | (rw [(mv_sc (SC_k hk49) (by omega)).2.1]) | rw [(mv_sc (SC_k hk49) (by omega)).2.1, (show ra_g s39 180 21 = ra_g σ 180 21 from ra_gk hk49)])) hs60o) (hs66v.trans ((hs60o 18 (by decide)).trans ((ra_gk hc41).trans ((ra_gk (hf28 (180) (by omega))).trans (ra_gk (hs1 (180) (by omega))))))) hs66o) (by first | exact hs71v | exact hs71v.trans ((ra_gk hc41).trans ((ra_gk (hf28 (180) (by omega))).trans (ra_gk (hs1 (180) (by omega)))))) hs71o) (by have q9 := he80; rw [e16] at q9; exact q9.trans (hs71o 17 (by decide) |>.trans (hs66v.trans ((hs60o 18 (by decide)).trans ((ra_gk hc41).trans ((ra_gk (hf28 (180) (by omega))).trans (ra_gk (hs1 (180) (by omega))))))))) (by have q9 := he81; rw [e16] at q9; exact q9))) (x5psh_k (x5psh_s hb5 hb4 hb0 he47) ((ra_gk (hf79 179 (by omega))).trans ((ra_gk (hs71 179 (by omega))).trans ((ra_gk (hs66 179 (by omega))).trans (ra_gk (hs60 179 (by omega)))))) ((hf79 184 (by omega)).trans ((hs71 184 (by omega)).trans ((hs66 184 (by omega)).trans (hs60 184 (by omega))))))), rfl⟩, ⟨hF82, hk83, hk84, hg85, tb.1, (PW_k (PW_k (PW_k (PW_k he46 (ra_gk (hs60 179 (by omega))) (hs60 184 (by omega))) (ra_gk (hs66 179 (by omega))) (hs66 184 (by omega))) (ra_gk (hs71 179 (by omega))) (hs71 184 (by omega))) (ra_gk (hf79 179 (by omega))) (hf79 184 (by omega)))⟩⟩
        · refine ra_load rfl rfl rfl rfl ?_
          refine ra_getR rfl lk_8_7 (Nat.zero_le _) sh_179 rfl ?_
          refine ra_bipush rfl (by decide) ?_
          refine ra_iconst rfl ?_
          refine ra_iastoreJ (j := 16) rfl sh_180 rfl (by decide) rfl (by decide) ?_
          refine ra_newR (by first | omega | (unfold ra_in at *; omega)) (fun s88 hs88 hs88v hs88o => ?_)
          have hF89 := Fr_tr (lo := 179) (hi := 191) hF48 hs88 (by omega)
          have hk90 : s88 (183) = σ (183) := (hs88 (183) (by omega)).trans hk50
          have hk91 : s88 (187) = σ (187) := (hs88 (187) (by omega)).trans hk51
          have hg92 : ∀ a, a ≠ 5 → a ≠ 7 → a ≠ 10 → ra_g s88 179 a = ra_g σ 179 a := fun a h5 h7 h10 => (ra_gk (hs88 179 (by omega))).trans (hg52 a h5 h7 h10)
          refine ra_iconst rfl ?_
          exact ra_ireturn rfl rfl ⟨⟨_, (by first | omega | (unfold ra_in at *; omega)), (x5roY ((x5cif_n (by have q9 := hz11p; rw [ra_gk hk4] at q9; omega)).trans (x5cif_n (by have q8 : ra_g s1 180 22 = ra_g σ 180 22 := ra_gk hk4; omega))) ((ra_gk (hs88 (179) (by omega))).trans ((he45 7 (by decide)).trans ((he30.2 rfl).trans hp2))) trivial (by rw [show x5tbV σ = x5up σ 16 (-1) from if_pos (by have q9 := (show ra_g s39 180 21 = ra_g σ 180 21 from ra_gk hk49); omega)]; exact (x5sc_up (SC_tr (SC_tr (SC_tr SC_rf (SC_k (hs1 180 (by omega)))) (SC_k (hf28 180 (by omega)))) (SC_k hc41)) hs88v hs88o)) (x5psh_k (x5psh_s hb5 hb4 hb0 he47) (ra_gk (hs88 179 (by omega))) (hs88 184 (by omega)))), rfl⟩, ⟨hF89, hk90, hk91, hg92, (mv_off (WF_k hk49 hw) (fun a ha h => hs88o a h) hs88v), (PW_k he46 (ra_gk (hs88 179 (by omega))) (hs88 184 (by omega)))⟩⟩
      · exact absurd h38 (by decide)
    · refine ra_iconst rfl ?_
      refine ra_goto rfl rfl ?_
      refine ra_iconst rfl ?_
      refine ra_cT (s5_194 (Or.inr rfl) (by first | omega | (unfold ra_in at *; omega))) rfl (ct_194 rfl lk_8_303 (Or.inl rfl) sh_179 (Nat.le_of_ble_eq_true rfl)) (fun s93 hs93 => ?_)
      obtain ⟨hf94, he95, he96⟩ := hs93
      have hF97 := Fr_tr (lo := 179) (hi := 191) hF3 hf94 (by omega)
      have hk98 : s93 (180) = σ (180) := (hf94 (180) (by omega)).trans hk4
      have hk99 : s93 (183) = σ (183) := (hf94 (183) (by omega)).trans hk5
      have hk100 : s93 (184) = σ (184) := (hf94 (184) (by omega)).trans hk6
      have hk101 : s93 (187) = σ (187) := (hf94 (187) (by omega)).trans hk7
      have hg102 : ∀ a, a ≠ 5 → a ≠ 7 → a ≠ 10 → ra_g s93 179 a = ra_g σ 179 a := fun a h5 h7 h10 => ((fun a h7 h10 => he95 a h7) a h7 h10).trans (hg8 a h5 h7 h10)
      have ho103 : ∀ a, a ≠ 7 → a ≠ 10 → ra_g s93 179 a = ra_g σ 179 a := fun a h7 h10 => ((fun a h7 h10 => he95 a h7) a h7 h10).trans (ho9 a h7 h10)
      refine ra_ifeq rfl rfl (by first | omega | (unfold ra_in at *; omega)) (fun h104 => ?_) (fun h104 => ?_)
      · exact absurd h104 (by decide)
      · refine ra_iconst rfl ?_
        exact ra_ireturn rfl rfl ⟨⟨_, (by first | omega | (unfold ra_in at *; omega)), (x5roF (k := 1) (by first | exact (x5cif_y (by have q9 := hz11p; rw [ra_gk hk4] at q9; omega)) | exact ((x5cif_n (by have q9 := hz11p; rw [ra_gk hk4] at q9; omega)).trans (x5cif_y (by have q8 : ra_g s1 180 22 = ra_g σ 180 22 := ra_gk hk4; omega)))) (by decide) (he96.1 rfl) hk98 (ho103 5 (by decide) (by decide)) hk100), rfl⟩, ⟨hF97, hk99, hk101, hg102, (WF_k hk98 hw), (PW_k hpw (ho103 5 (by decide) (by decide)) hk100)⟩⟩
theorem s5_340 {n : Nat} {f : Nat → Int32} {d : Nat}  {σ : ra_V} (hw : WF σ) (hpw : PW σ) : ra_C (g_Gs n f) g_sh 0 (d + 2) 340 [.index (179)] σ (fun r9 s => (∃ z, ra_in z ∧ (z = ra_g σ 179 5 - 1 ∧ ra_g s 179 7 = 0 ∧ (0 < ra_g σ 179 5 → x5FS (rowV σ 184 (688 * (ra_g σ 179 5 - 1).toNat)) s ∧ ra_g s 179 5 = ra_g σ 179 5 - 1 ∧ s 184 = σ 184) ∧ (¬ 0 < ra_g σ 179 5 → s 180 = σ 180 ∧ ra_g s 179 5 = ra_g σ 179 5 ∧ s 184 = σ 184)) ∧ r9 = .inl (some (ra_I z))) ∧ Fr (179) (191) σ s ∧ s (183) = σ (183) ∧ s (187) = σ (187) ∧ (∀ a, a ≠ 5 → a ≠ 7 → a ≠ 10 → ra_g s 179 a = ra_g σ 179 a) ∧ WF s ∧ PW s) := by
  refine ra_enter (nn := 0) mt_340 rfl (Nat.le_of_ble_eq_true rfl) rfl (fun h => absurd h (by decide +kernel)) ?_
  have hpw0 := hpw.1
  refine ra_load rfl rfl rfl rfl ?_
  refine ra_iconst rfl ?_
  refine ra_putI rfl lk_8_51 (Nat.zero_le _) sh_179 rfl rfl ?_
  refine ra_newU (by first | omega | (unfold ra_in at *; omega)) (fun s1 hs1 hp2 hp2o => ?_)
  have hp2_5 := hp2o 5 (by decide)
  have hp2_99 := hp2o 99 (by decide)
  have hF3 := Fr_tr (lo := 179) (hi := 191) Fr_rf hs1 (by omega)
  have hk4 : s1 (180) = σ (180) := (hs1 (180) (by omega))
  have hk5 : s1 (183) = σ (183) := (hs1 (183) (by omega))
  have hk6 : s1 (184) = σ (184) := (hs1 (184) (by omega))
  have hk7 : s1 (187) = σ (187) := (hs1 (187) (by omega))
  have hg8 : ∀ a, a ≠ 5 → a ≠ 7 → a ≠ 10 → ra_g s1 179 a = ra_g σ 179 a := fun a h5 h7 h10 => ((fun a h7 h10 => hp2o a h7) a h7 h10).trans ((fun _ _ _ _ => rfl) a h5 h7 h10)
  have ho9 : ∀ a, a ≠ 7 → a ≠ 10 → ra_g s1 179 a = ra_g σ 179 a := fun a h7 h10 => ((fun a h7 h10 => hp2o a h7) a h7 h10).trans ((fun _ _ _ => rfl) a h7 h10)
  refine ra_load rfl rfl rfl rfl ?_
  refine ra_getI rfl lk_8_54 (Nat.zero_le _) sh_179 rfl ?_
  have hr10 : ra_in (ra_g s1 (179) 5) := (ra_in_g _ _ _)
  refine ra_ifne rfl rfl hr10 (fun h11 => ?_) (fun h11 => ?_)
  · refine ra_load rfl rfl rfl rfl ?_
    refine ra_dup rfl rfl ?_
    refine ra_getI rfl lk_8_54 (Nat.zero_le _) sh_179 rfl ?_
    have hr12 : ra_in (ra_g s1 (179) 5) := (ra_in_g _ _ _)
    refine ra_iconst rfl ?_
    refine ra_isub rfl ?_
    refine ra_putI rfl lk_8_54 (Nat.zero_le _) sh_179 rfl rfl ?_
    refine ra_newU (by first | omega | (unfold ra_in at *; omega)) (fun s13 hs13 hp14 hp14o => ?_)
    have hp14_99 := hp14o 99 (by decide)
    have hF15 := Fr_tr (lo := 179) (hi := 191) hF3 hs13 (by omega)
    have hk16 : s13 (180) = σ (180) := (hs13 (180) (by omega)).trans hk4
    have hk17 : s13 (183) = σ (183) := (hs13 (183) (by omega)).trans hk5
    have hk18 : s13 (184) = σ (184) := (hs13 (184) (by omega)).trans hk6
    have hk19 : s13 (187) = σ (187) := (hs13 (187) (by omega)).trans hk7
    have hg20 : ∀ a, a ≠ 5 → a ≠ 7 → a ≠ 10 → ra_g s13 179 a = ra_g σ 179 a := fun a h5 h7 h10 => ((fun a h5 h7 h10 => hp14o a h5) a h5 h7 h10).trans (hg8 a h5 h7 h10)
    refine ra_load rfl rfl rfl rfl ?_
    refine ra_getR rfl lk_8_22 (Nat.zero_le _) sh_179 rfl ?_
    refine ra_sipush rfl (by decide) ?_
    refine ra_load rfl rfl rfl rfl ?_
    refine ra_getI rfl lk_8_54 (Nat.zero_le _) sh_179 rfl ?_
    have hr21 : ra_in (ra_g s13 (179) 5) := (ra_in_g _ _ _)
    refine ra_imul rfl ?_
    refine ra_load rfl rfl rfl rfl ?_
    refine ra_getR rfl lk_8_7 (Nat.zero_le _) sh_179 rfl ?_
    refine ra_iconst rfl ?_
    refine ra_sipush rfl (by decide) ?_
    refine ra_cV (sp_195 sh_184 (by decide) (by first | omega | (unfold ra_in at *; omega)) sh_180 (by decide) (by first | omega | (unfold ra_in at *; omega)) (by first | omega | (unfold ra_in at *; omega)) (by first | assumption | rfl | omega) (by first | assumption | rfl | omega)) rfl (ct_195 rfl lk_8_57 (Or.inl rfl) (Nat.le_of_ble_eq_true rfl)) (fun s22 hs22 => ?_)
    obtain ⟨hf23, he24⟩ := hs22
    have hF25 := Fr_tr (lo := 179) (hi := 191) hF15 hf23 (by omega)
    have hk26 : s22 (183) = σ (183) := (hf23 (183) (by omega)).trans hk17
    have hk27 : s22 (184) = σ (184) := (hf23 (184) (by omega)).trans hk18
    have hk28 : s22 (187) = σ (187) := (hf23 (187) (by omega)).trans hk19
    have hk29 : s22 (179) = s13 (179) := (hf23 (179) (by omega))
    have hg30 : ∀ a, a ≠ 5 → a ≠ 7 → a ≠ 10 → ra_g s22 179 a = ra_g σ 179 a := fun a h5 h7 h10 => (ra_gk (hf23 179 (by omega))).trans (hg20 a h5 h7 h10)
    refine ra_load rfl rfl rfl rfl ?_
    refine ra_getI rfl lk_8_54 (Nat.zero_le _) sh_179 rfl ?_
    rw [ra_gk hk29]
    have hr31 : ra_in (ra_g s13 (179) 5) := (ra_in_g _ _ _)
    exact ra_ireturn rfl rfl ⟨⟨_, hr31, ⟨by first | omega | (have q9 := ((ra_gk (hf23 (179) (by omega))).trans hp14); omega), ((ra_gk (hf23 (179) (by omega))).trans ((hp14o 7 (by decide)).trans hp2)), fun _ => ⟨by have q9 := x5fs_cp (by omega) he24; have q8 : ra_g s13 179 5 = ra_g σ 179 5 - 1 := (by omega); rw [q8] at q9; exact x5und_f q9 (by omega) ((hs13 184 (by omega)).trans (hs1 184 (by omega))), by have q9 := ((ra_gk (hf23 (179) (by omega))).trans hp14); omega, (hf23 184 (by omega)).trans ((hs13 184 (by omega)).trans (hs1 184 (by omega)))⟩, fun q => by omega⟩, rfl⟩, ⟨hF25, hk26, hk28, hg30, (ud_w hpw (by omega) (by omega) ((hs13 184 (by omega)).trans (hs1 184 (by omega))) he24 (ra_gk (hf23 179 (by omega))) (hf23 184 (by omega)))⟩⟩
  · refine ra_iconst rfl ?_
    exact ra_ireturn rfl rfl ⟨⟨_, (by first | omega | (unfold ra_in at *; omega)), ⟨by omega, hp2, fun q => by omega, fun _ => ⟨hk4, ho9 5 (by decide) (by decide), hk6⟩⟩, rfl⟩, ⟨hF3, hk5, hk7, hg8, (WF_k hk4 hw), (PW_k hpw (ho9 5 (by decide) (by decide)) hk6)⟩⟩
theorem s5_341 {n : Nat} {f : Nat → Int32} {d : Nat}  {σ : ra_V} (hw : WF σ) : ra_C (g_Gs n f) g_sh 0 (d + 3) 341 [.index (179)] σ (fun r9 s => (∃ z, ra_in z ∧ (z = ct σ (-1) ∧ ra_g s 179 7 = 0 ∧ ra_g s 179 6 = 1 ∧ x5FS σ (rowV s 183 0) ∧ ra_g s 179 5 = ra_g σ 179 5) ∧ r9 = .inl (some (ra_I z))) ∧ Fr (179) (184) σ s ∧ s (180) = σ (180) ∧ s (184) = σ (184) ∧ (∀ a, a ≠ 6 → a ≠ 7 → ra_g s 179 a = ra_g σ 179 a) ∧ WF (rowV s 183 0)) := by
  refine ra_enter (nn := 0) mt_341 rfl (Nat.le_of_ble_eq_true rfl) rfl (fun h => absurd h (by decide +kernel)) ?_
  refine ra_load rfl rfl rfl rfl ?_
  refine ra_iconst rfl ?_
  refine ra_putI rfl lk_8_51 (Nat.zero_le _) sh_179 rfl rfl ?_
  refine ra_newU (by first | omega | (unfold ra_in at *; omega)) (fun s1 hs1 hp2 hp2o => ?_)
  have hp2_99 := hp2o 99 (by decide)
  have hF3 := Fr_tr (lo := 179) (hi := 184) Fr_rf hs1 (by omega)
  have hk4 : s1 (180) = σ (180) := (hs1 (180) (by omega))
  have hk5 : s1 (184) = σ (184) := (hs1 (184) (by omega))
  refine ra_load rfl rfl rfl rfl ?_
  refine ra_getR rfl lk_8_7 (Nat.zero_le _) sh_179 rfl ?_
  refine ra_iconst rfl ?_
  refine ra_load rfl rfl rfl rfl ?_
  refine ra_getR rfl lk_8_19 (Nat.zero_le _) sh_179 rfl ?_
  refine ra_iconst rfl ?_
  refine ra_sipush rfl (by decide) ?_
  refine ra_cV (sp_195 sh_180 (by decide) (by first | omega | (unfold ra_in at *; omega)) sh_183 (by decide) (by first | omega | (unfold ra_in at *; omega)) (by first | omega | (unfold ra_in at *; omega)) (by first | assumption | rfl | omega) (by first | assumption | rfl | omega)) rfl (ct_195 rfl lk_8_57 (Or.inl rfl) (Nat.le_of_ble_eq_true rfl)) (fun s6 hs6 => ?_)
  obtain ⟨hf7, he8⟩ := hs6
  have hF9 := Fr_tr (lo := 179) (hi := 184) hF3 hf7 (by omega)
  have hk10 : s6 (180) = σ (180) := (hf7 (180) (by omega)).trans hk4
  have hk11 : s6 (184) = σ (184) := (hf7 (184) (by omega)).trans hk5
  have hk12 : s6 (179) = s1 (179) := (hf7 (179) (by omega))
  refine ra_load rfl rfl rfl rfl ?_
  refine ra_iconst rfl ?_
  refine ra_putB rfl lk_8_294 (Nat.zero_le _) sh_179 rfl rfl (Or.inr rfl) ?_
  refine ra_newU (ra_in01 (Or.inr rfl)) (fun s13 hs13 hp14 hp14o => ?_)
  have hp14_99 := hp14o 99 (by decide)
  rw [ra_gk hk12] at hp14_99
  have hF15 := Fr_tr (lo := 179) (hi := 184) hF9 hs13 (by omega)
  have hk16 : s13 (180) = σ (180) := (hs13 (180) (by omega)).trans hk10
  have hk17 : s13 (184) = σ (184) := (hs13 (184) (by omega)).trans hk11
  refine ra_load rfl rfl rfl rfl ?_
  refine ra_cIPp (s6_203 (WF_k hk16 hw)) rfl (ct_203 rfl lk_8_298 (Or.inl rfl) sh_179 (Nat.le_of_ble_eq_true rfl)) (fun z19 hz19 hz19p => ?_)
  have hz19o := hz19p.1
  have hz19q := hz19p.2
  clear hz19p
  exact ra_ireturn rfl rfl ⟨⟨_, hz19, ⟨(by have q9 := hz19q; rw [ct_k hk16] at q9; exact q9), ((hp14o 7 (by decide)).trans ((ra_gk (hf7 (179) (by omega))).trans hp2)), hp14, x5fs_k (hs13 183 (by omega)) (x5fs_sv he8 (hs1 180 (by omega))), ((hp14o 5 (by decide)).trans ((ra_gk (hf7 (179) (by omega))).trans (hp2o 5 (by decide))))⟩, rfl⟩, ⟨hF15, hk16, hk17, (fun a h6 h7 => (hp14o a h6).trans ((ra_gk (hf7 179 (by omega))).trans (hp2o a h7))), sv_w hw (hs1 180 (by omega)) he8 (hs13 183 (by omega))⟩⟩
theorem s5_342 {n : Nat} {f : Nat → Int32} {d : Nat}  {σ : ra_V} (hw : WF σ) (hpw : PW σ) (hsv : ra_g σ 179 6 ≠ 0 → WF (rowV σ 183 0)) : ra_C (g_Gs n f) g_sh 0 (d + 3) 342 [.index (179)] σ (fun r9 s => (∃ z, ra_in z ∧ ((ra_g σ 179 6 = 0 → ra_g s 179 7 = 1 ∧ s 180 = σ 180 ∧ ra_g s 179 5 = ra_g σ 179 5 ∧ s 184 = σ 184) ∧ (ra_g σ 179 6 ≠ 0 → ra_g s 179 7 = 0 ∧ z = ct s (-1) ∧ x5FS (rowV σ 183 0) s ∧ ra_g s 179 5 = 0 ∧ s 184 = σ 184)) ∧ r9 = .inl (some (ra_I z))) ∧ Fr (179) (191) σ s ∧ s (183) = σ (183) ∧ s (187) = σ (187) ∧ (∀ a, a ≠ 5 → a ≠ 7 → a ≠ 10 → ra_g s 179 a = ra_g σ 179 a) ∧ WF s ∧ PW s) := by
  refine ra_enter (nn := 0) mt_342 rfl (Nat.le_of_ble_eq_true rfl) rfl (fun h => absurd h (by decide +kernel)) ?_
  have hw0 := WF_a hw
  unfold WFa at hw0
  refine ra_load rfl rfl rfl rfl ?_
  refine ra_iconst rfl ?_
  refine ra_putI rfl lk_8_51 (Nat.zero_le _) sh_179 rfl rfl ?_
  refine ra_newU (by first | omega | (unfold ra_in at *; omega)) (fun s1 hs1 hp2 hp2o => ?_)
  have hp2_6 := hp2o 6 (by decide)
  have hp2_99 := hp2o 99 (by decide)
  have hF3 := Fr_tr (lo := 179) (hi := 191) Fr_rf hs1 (by omega)
  have hk4 : s1 (180) = σ (180) := (hs1 (180) (by omega))
  have hk5 : s1 (183) = σ (183) := (hs1 (183) (by omega))
  have hk6 : s1 (184) = σ (184) := (hs1 (184) (by omega))
  have hk7 : s1 (187) = σ (187) := (hs1 (187) (by omega))
  have hg8 : ∀ a, a ≠ 5 → a ≠ 7 → a ≠ 10 → ra_g s1 179 a = ra_g σ 179 a := fun a h5 h7 h10 => ((fun a h7 h10 => hp2o a h7) a h7 h10).trans ((fun _ _ _ _ => rfl) a h5 h7 h10)
  have ho9 : ∀ a, a ≠ 7 → a ≠ 10 → ra_g s1 179 a = ra_g σ 179 a := fun a h7 h10 => ((fun a h7 h10 => hp2o a h7) a h7 h10).trans ((fun _ _ _ => rfl) a h7 h10)
  refine ra_load rfl rfl rfl rfl ?_
  refine ra_load rfl rfl rfl rfl ?_
  refine ra_getB rfl lk_8_294 (Nat.zero_le _) sh_179 rfl ?_
  refine ra_ifneB rfl rfl (fun h10 => ?_) (fun h10 => ?_)
  · refine ra_iconst rfl ?_
    refine ra_iconst rfl ?_
    refine ra_cT (s5_194 (Or.inl rfl) (by first | omega | (unfold ra_in at *; omega))) rfl (ct_194 rfl lk_8_303 (Or.inl rfl) sh_179 (Nat.le_of_ble_eq_true rfl)) (fun s11 hs11 => ?_)
    obtain ⟨hf12, he13, he14⟩ := hs11
    have hF15 := Fr_tr (lo := 179) (hi := 191) hF3 hf12 (by omega)
    have hk16 : s11 (180) = σ (180) := (hf12 (180) (by omega)).trans hk4
    have hk17 : s11 (183) = σ (183) := (hf12 (183) (by omega)).trans hk5
    have hk18 : s11 (184) = σ (184) := (hf12 (184) (by omega)).trans hk6
    have hk19 : s11 (187) = σ (187) := (hf12 (187) (by omega)).trans hk7
    have hg20 : ∀ a, a ≠ 5 → a ≠ 7 → a ≠ 10 → ra_g s11 179 a = ra_g σ 179 a := fun a h5 h7 h10 => ((fun a h7 h10 => he13 a h7) a h7 h10).trans (hg8 a h5 h7 h10)
    have ho21 : ∀ a, a ≠ 7 → a ≠ 10 → ra_g s11 179 a = ra_g σ 179 a := fun a h7 h10 => ((fun a h7 h10 => he13 a h7) a h7 h10).trans (ho9 a h7 h10)
    refine ra_ifeq rfl rfl (by first | omega | (unfold ra_in at *; omega)) (fun h22 => ?_) (fun h22 => ?_)
    · refine ra_load rfl rfl rfl rfl ?_
      refine ra_getR rfl lk_8_19 (Nat.zero_le _) sh_179 rfl ?_
      refine ra_iconst rfl ?_
      refine ra_load rfl rfl rfl rfl ?_
      refine ra_getR rfl lk_8_7 (Nat.zero_le _) sh_179 rfl ?_
      refine ra_iconst rfl ?_
      refine ra_sipush rfl (by decide) ?_
      refine ra_cV (sp_195 sh_183 (by decide) (by first | omega | (unfold ra_in at *; omega)) sh_180 (by decide) (by first | omega | (unfold ra_in at *; omega)) (by first | omega | (unfold ra_in at *; omega)) (by first | assumption | rfl | omega) (by first | assumption | rfl | omega)) rfl (ct_195 rfl lk_8_57 (Or.inl rfl) (Nat.le_of_ble_eq_true rfl)) (fun s23 hs23 => ?_)
      obtain ⟨hf24, he25⟩ := hs23
      have hF26 := Fr_tr (lo := 179) (hi := 191) hF15 hf24 (by omega)
      have hk27 : s23 (183) = σ (183) := (hf24 (183) (by omega)).trans hk17
      have hk28 : s23 (184) = σ (184) := (hf24 (184) (by omega)).trans hk18
      have hk29 : s23 (187) = σ (187) := (hf24 (187) (by omega)).trans hk19
      have hg30 : ∀ a, a ≠ 5 → a ≠ 7 → a ≠ 10 → ra_g s23 179 a = ra_g σ 179 a := fun a h5 h7 h10 => (ra_gk (hf24 179 (by omega))).trans (hg20 a h5 h7 h10)
      have ho31 : ∀ a, a ≠ 7 → a ≠ 10 → ra_g s23 179 a = ra_g σ 179 a := fun a h7 h10 => (ra_gk (hf24 179 (by omega))).trans (ho21 a h7 h10)
      refine ra_load rfl rfl rfl rfl ?_
      refine ra_iconst rfl ?_
      refine ra_putI rfl lk_8_54 (Nat.zero_le _) sh_179 rfl rfl ?_
      refine ra_newU (by first | omega | (unfold ra_in at *; omega)) (fun s32 hs32 hp33 hp33o => ?_)
      have hp33_6 := hp33o 6 (by decide)
      have hp33_99 := hp33o 99 (by decide)
      have hF34 := Fr_tr (lo := 179) (hi := 191) hF26 hs32 (by omega)
      have hk35 : s32 (183) = σ (183) := (hs32 (183) (by omega)).trans hk27
      have hk36 : s32 (184) = σ (184) := (hs32 (184) (by omega)).trans hk28
      have hk37 : s32 (187) = σ (187) := (hs32 (187) (by omega)).trans hk29
      have hg38 : ∀ a, a ≠ 5 → a ≠ 7 → a ≠ 10 → ra_g s32 179 a = ra_g σ 179 a := fun a h5 h7 h10 => ((fun a h5 h7 h10 => hp33o a h5) a h5 h7 h10).trans (hg30 a h5 h7 h10)
      refine ra_load rfl rfl rfl rfl ?_
      refine ra_cIPp (s6_203 (rs_w (hsv (by omega)) ((hf12 183 (by omega)).trans (hs1 183 (by omega))) he25 (hs32 180 (by omega)) hp33).1) rfl (ct_203 rfl lk_8_298 (Or.inl rfl) sh_179 (Nat.le_of_ble_eq_true rfl)) (fun z40 hz40 hz40p => ?_)
      have hz40o := hz40p.1
      have hz40q := hz40p.2
      clear hz40p
      exact ra_ireturn rfl rfl ⟨⟨_, hz40, ⟨fun q => absurd q (by omega), fun _ => ⟨((hp33o 7 (by decide)).trans ((ra_gk (hf24 (179) (by omega))).trans ((he14.2 rfl).trans hp2))), hz40q, x5fs_r he25 ((hf12 183 (by omega)).trans (hs1 183 (by omega))) (hs32 180 (by omega)), hp33, ((hs32 184 (by omega)).trans ((hf24 184 (by omega)).trans ((hf12 184 (by omega)).trans (hs1 184 (by omega)))))⟩⟩, rfl⟩, ⟨hF34, hk35, hk37, hg38, (rs_w (hsv (by omega)) ((hf12 183 (by omega)).trans (hs1 183 (by omega))) he25 (hs32 180 (by omega)) hp33)⟩⟩
    · exact absurd h22 (by decide)
  · refine ra_iconst rfl ?_
    refine ra_goto rfl rfl ?_
    refine ra_iconst rfl ?_
    refine ra_cT (s5_194 (Or.inr rfl) (by first | omega | (unfold ra_in at *; omega))) rfl (ct_194 rfl lk_8_303 (Or.inl rfl) sh_179 (Nat.le_of_ble_eq_true rfl)) (fun s41 hs41 => ?_)
    obtain ⟨hf42, he43, he44⟩ := hs41
    have hF45 := Fr_tr (lo := 179) (hi := 191) hF3 hf42 (by omega)
    have hk46 : s41 (180) = σ (180) := (hf42 (180) (by omega)).trans hk4
    have hk47 : s41 (183) = σ (183) := (hf42 (183) (by omega)).trans hk5
    have hk48 : s41 (184) = σ (184) := (hf42 (184) (by omega)).trans hk6
    have hk49 : s41 (187) = σ (187) := (hf42 (187) (by omega)).trans hk7
    have hg50 : ∀ a, a ≠ 5 → a ≠ 7 → a ≠ 10 → ra_g s41 179 a = ra_g σ 179 a := fun a h5 h7 h10 => ((fun a h7 h10 => he43 a h7) a h7 h10).trans (hg8 a h5 h7 h10)
    have ho51 : ∀ a, a ≠ 7 → a ≠ 10 → ra_g s41 179 a = ra_g σ 179 a := fun a h7 h10 => ((fun a h7 h10 => he43 a h7) a h7 h10).trans (ho9 a h7 h10)
    refine ra_ifeq rfl rfl (by first | omega | (unfold ra_in at *; omega)) (fun h52 => ?_) (fun h52 => ?_)
    · exact absurd h52 (by decide)
    · refine ra_iconst rfl ?_
      exact ra_ireturn rfl rfl ⟨⟨_, (by first | omega | (unfold ra_in at *; omega)), ⟨fun _ => ⟨(he44.1 rfl), hk46, ho51 5 (by decide) (by decide), hk48⟩, fun q => absurd q (by omega)⟩, rfl⟩, ⟨hF45, hk47, hk49, hg50, (WF_k hk46 hw), (PW_k hpw (ho51 5 (by decide) (by decide)) hk48)⟩⟩
end
