/-! T5: the reference's loadDisk (printed by wip/gen/r10.py) -/
section
variable {B : Nat → Int} {bn ps ta ti : Nat} {r : Nat → Int}
theorem l9_196_2 {n : Nat} {f : Nat → Int32} {d : Nat} {x0 : Int} {σ : ra_V} (hx0 : ra_in x0) (hb : 64 ≤ x0 ∧ x0 ≤ 600) : ∀ (nn : Nat) (v2 : Int) (s : ra_V) (hv2_0 : 0 ≤ v2) (hv2_1 : v2 ≤ 688) (hF : Fr (180) (181) σ s) (hc : ∀ a : Nat, (a : Int) < v2 → ra_g s 180 a = 0) (hm : ((688 - v2 : Int)).toNat < nn), ra_P (g_Gs n f) g_sh 0 (d + 0) g_m_X8_clear 2 [some (.index (179)), some (ra_I x0), some (ra_I v2)] [] s (fun r9 s => rV r9 ∧ Fr (180) (181) σ s ∧ WF s ∧ (∀ a, a < 88 → a ≠ 0 → a ≠ 3 → a ≠ 4 → a ≠ 16 → ra_g s 180 a = 0) ∧ ra_g s 180 3 = 1 ∧ ra_g s 180 4 = 4 ∧ ra_g s 180 16 = -1) := by
  intro nn
  induction nn with
  | zero => intro v2 s hv2_0 hv2_1 hF hc hm; exact absurd hm (Nat.not_lt_zero _)
  | succ nn ih =>
    intro v2 s hv2_0 hv2_1 hF hc hm
    refine ra_load rfl rfl rfl rfl ?_
    refine ra_sipush rfl (by decide) ?_
    refine ra_icge rfl rfl (by first | omega | (unfold ra_in at *; omega)) (by first | omega | (unfold ra_in at *; omega)) (fun h1 => ?_) (fun h1 => ?_)
    · refine ra_load rfl rfl rfl rfl ?_
      refine ra_getR rfl lk_8_7 (Nat.zero_le _) sh_179 rfl ?_
      refine ra_iconst rfl ?_
      refine ra_load rfl rfl rfl rfl ?_
      refine ra_iastoreJ (j := 0) rfl sh_180 rfl (by decide) rfl (by decide) ?_
      refine ra_newR hx0 (fun s2 hs2 hs2v hs2o => ?_)
      have hF3 := Fr_tr (lo := 180) (hi := 181) hF hs2 (by omega)
      refine ra_load rfl rfl rfl rfl ?_
      refine ra_getR rfl lk_8_7 (Nat.zero_le _) sh_179 rfl ?_
      refine ra_iconst rfl ?_
      refine ra_iconst rfl ?_
      refine ra_iastoreJ (j := 3) rfl sh_180 rfl (by decide) rfl (by decide) ?_
      refine ra_newR (by first | omega | (unfold ra_in at *; omega)) (fun s4 hs4 hs4v hs4o => ?_)
      have hF5 := Fr_tr (lo := 180) (hi := 181) hF3 hs4 (by omega)
      refine ra_load rfl rfl rfl rfl ?_
      refine ra_getR rfl lk_8_7 (Nat.zero_le _) sh_179 rfl ?_
      refine ra_iconst rfl ?_
      refine ra_iconst rfl ?_
      refine ra_iastoreJ (j := 4) rfl sh_180 rfl (by decide) rfl (by decide) ?_
      refine ra_newR (by first | omega | (unfold ra_in at *; omega)) (fun s6 hs6 hs6v hs6o => ?_)
      have hF7 := Fr_tr (lo := 180) (hi := 181) hF5 hs6 (by omega)
      refine ra_load rfl rfl rfl rfl ?_
      refine ra_getR rfl lk_8_7 (Nat.zero_le _) sh_179 rfl ?_
      refine ra_bipush rfl (by decide) ?_
      refine ra_iconst rfl ?_
      refine ra_iastoreJ (j := 16) rfl sh_180 rfl (by decide) rfl (by decide) ?_
      refine ra_newR (by first | omega | (unfold ra_in at *; omega)) (fun s8 hs8 hs8v hs8o => ?_)
      have hF9 := Fr_tr (lo := 180) (hi := 181) hF7 hs8 (by omega)
      exact ra_return rfl rfl ⟨rfl, ⟨hF9, wf_clear hb ((((hs8o 0 (by decide)).trans (hs6o 0 (by decide))).trans (hs4o 0 (by decide))).trans hs2v) (((hs8o 3 (by decide)).trans (hs6o 3 (by decide))).trans hs4v) ((hs8o 4 (by decide)).trans hs6v) hs8v (fun a h1 h2 h3 h4 h5 => (hs8o a h5).trans ((hs6o a h4).trans ((hs4o a h3).trans ((hs2o a h2).trans (hc a (by omega)))))), (fun a h1 h2 h3 h4 h5 => (hs8o a h5).trans ((hs6o a h4).trans ((hs4o a h3).trans ((hs2o a h2).trans (hc a (by omega)))))), (hs8o 3 (by decide)).trans ((hs6o 3 (by decide)).trans hs4v), (hs8o 4 (by decide)).trans hs6v, hs8v⟩⟩
    · refine ra_load rfl rfl rfl rfl ?_
      refine ra_getR rfl lk_8_7 (Nat.zero_le _) sh_179 rfl ?_
      refine ra_load rfl rfl rfl rfl ?_
      refine ra_iconst rfl ?_
      refine ra_iastore rfl sh_180 rfl (by decide) (by first | omega | (unfold ra_in at *; omega)) (by first | omega | (unfold ra_in at *; omega)) ?_
      refine ra_newR (by first | omega | (unfold ra_in at *; omega)) (fun s10 hs10 hs10v hs10o => ?_)
      have hF11 := Fr_tr (lo := 180) (hi := 181) hF hs10 (by omega)
      refine ra_iinc (L' := [_, _, _]) rfl rfl (Nat.le_of_ble_eq_true rfl) rfl ?_
      refine ra_goto rfl rfl ?_
      exact ra_weak (by repeat' constructor) (ih (v2 + 1) s10 (by first | omega | (unfold ra_in at *; omega)) (by first | omega | (unfold ra_in at *; omega)) hF11 (fun a h => if e : a = v2.toNat then (by rw [e]; exact hs10v) else (hs10o a e).trans (hc a (by omega))) (by first | omega | (unfold ra_in at *; omega)))
theorem s9_196 {n : Nat} {f : Nat → Int32} {d : Nat} {x0 : Int} {σ : ra_V} (hx0 : ra_in x0) (hb : 64 ≤ x0 ∧ x0 ≤ 600) : ra_C (g_Gs n f) g_sh 0 (d + 1) 196 [.index (179), ra_I x0] σ (fun r9 s => rV r9 ∧ Fr (180) (181) σ s ∧ WF s ∧ (∀ a, a < 88 → a ≠ 0 → a ≠ 3 → a ≠ 4 → a ≠ 16 → ra_g s 180 a = 0) ∧ ra_g s 180 3 = 1 ∧ ra_g s 180 4 = 4 ∧ ra_g s 180 16 = -1) := by
  refine ra_enter (nn := 1) mt_196 rfl (Nat.le_of_ble_eq_true rfl) rfl (fun h => absurd h (by decide +kernel)) ?_
  refine ra_iconst rfl ?_
  refine ra_store (L' := [_, _, _]) rfl rfl rfl (Nat.le_of_ble_eq_true rfl) rfl ?_
  exact ra_weak (by repeat' constructor) (l9_196_2 hx0 hb _ (0) σ (by first | omega | (unfold ra_in at *; omega)) (by first | omega | (unfold ra_in at *; omega)) Fr_rf (fun a h => by omega) (Nat.lt_succ_self _))
theorem s9_262 {n : Nat} {f : Nat → Int32} {d : Nat}  {σ : ra_V} (hw : WF σ) (hpw : PW σ) (hn0 : 0 ≤ ra_g σ 179 12 ∧ ra_g σ 179 12 ≤ 500) (hB : x4TR σ B bn) : ra_C (g_Gs n f) g_sh 0 (d + 9) 262 [.index (179)] σ (fun r9 s => r9 = .inl (some (ra_I (tx_ans (tx_text B bn)))) ∧ Fr (179) (189) σ s ∧ s (183) = σ (183) ∧ (∀ a, a ≠ 5 → a ≠ 6 → a ≠ 7 → a ≠ 12 → a ≠ 13 → a ≠ 14 → a ≠ 15 → a ≠ 16 → a ≠ 17 → a ≠ 18 → a ≠ 19 → a ≠ 20 → a ≠ 21 → ra_g s 179 a = ra_g σ 179 a) ∧ ra_g s 179 12 = 0 ∧ (ra_g s 179 6 ≠ 0 → ra_g σ 179 6 ≠ 0) ∧ WF s ∧ PW s ∧ ra_g s 179 13 = tx_err (tx_text B bn) ∧ ra_g s 179 14 = tx_off (tx_text B bn) ∧ (∀ r, tx_text B bn = .inr r → SC (x5rT r) s ∧ ra_g s 179 5 = 0 ∧ ra_g s 179 6 = 0 ∧ x5W3 s) ∧ (∀ u, tx_text B bn = .inl u → SC σ s ∧ ra_g s 179 5 = ra_g σ 179 5 ∧ ra_g s 179 6 = ra_g σ 179 6 ∧ s 184 = σ 184)) := by
  refine ra_enter (nn := 1) mt_262 rfl (Nat.le_of_ble_eq_true rfl) rfl (fun h => absurd h (by decide +kernel)) ?_
  refine ra_load rfl rfl rfl rfl ?_
  refine ra_iconst rfl ?_
  refine ra_putI rfl lk_8_51 (Nat.zero_le _) sh_179 rfl rfl ?_
  refine ra_newU (by first | omega | (unfold ra_in at *; omega)) (fun s1 hs1 hp2 hp2o => ?_)
  have hp2_12 := hp2o 12 (by decide)
  have hp2_17 := hp2o 17 (by decide)
  have hF3 := Fr_tr (lo := 179) (hi := 189) Fr_rf hs1 (by omega)
  have hk4 : s1 (183) = σ (183) := (hs1 (183) (by omega))
  have hk5 : s1 (184) = σ (184) := (hs1 (184) (by omega))
  have hk6 : s1 (187) = σ (187) := (hs1 (187) (by omega))
  refine ra_load rfl rfl rfl rfl ?_
  refine ra_getR rfl lk_8_7 (Nat.zero_le _) sh_179 rfl ?_
  refine ra_iconst rfl ?_
  refine ra_load rfl rfl rfl rfl ?_
  refine ra_getR rfl lk_8_13 (Nat.zero_le _) sh_179 rfl ?_
  refine ra_iconst rfl ?_
  refine ra_sipush rfl (by decide) ?_
  refine ra_cV (sp_195 sh_180 (by decide) (by first | omega | (unfold ra_in at *; omega)) sh_181 (by decide) (by first | omega | (unfold ra_in at *; omega)) (by first | omega | (unfold ra_in at *; omega)) (by first | assumption | rfl | omega) (by first | assumption | rfl | omega)) rfl (ct_195 rfl lk_8_57 (Or.inl rfl) (Nat.le_of_ble_eq_true rfl)) (fun s7 hs7 => ?_)
  obtain ⟨hf8, he9⟩ := hs7
  have hF10 := Fr_tr (lo := 179) (hi := 189) hF3 hf8 (by omega)
  have hk11 : s7 (183) = σ (183) := (hf8 (183) (by omega)).trans hk4
  have hk12 : s7 (184) = σ (184) := (hf8 (184) (by omega)).trans hk5
  have hk13 : s7 (187) = σ (187) := (hf8 (187) (by omega)).trans hk6
  have hk14 : s7 (179) = s1 (179) := (hf8 (179) (by omega))
  refine ra_load rfl rfl rfl rfl ?_
  refine ra_bipush rfl (by decide) ?_
  refine ra_cV (s9_196 (by first | omega | (unfold ra_in at *; omega)) (by first | assumption | rfl | omega)) rfl (ct_196 rfl lk_8_47 (Or.inl rfl) sh_179 (Nat.le_of_ble_eq_true rfl)) (fun s15 hs15 => ?_)
  obtain ⟨hf16, he17, he18, he19, he20, he21⟩ := hs15
  have hF22 := Fr_tr (lo := 179) (hi := 189) hF10 hf16 (by omega)
  have hk23 : s15 (183) = σ (183) := (hf16 (183) (by omega)).trans hk11
  have hk24 : s15 (184) = σ (184) := (hf16 (184) (by omega)).trans hk12
  have hk25 : s15 (187) = σ (187) := (hf16 (187) (by omega)).trans hk13
  have hk26 : s15 (179) = s1 (179) := (hf16 (179) (by omega)).trans hk14
  have hl0 := LD_0 he17 he18
  have hl0b := hl0.2
  refine ra_load rfl rfl rfl rfl ?_
  refine ra_iconst rfl ?_
  refine ra_putI rfl lk_8_215 (Nat.zero_le _) sh_179 rfl rfl ?_
  refine ra_newU (by first | omega | (unfold ra_in at *; omega)) (fun s27 hs27 hp28 hp28o => ?_)
  have hp28_12 := hp28o 12 (by decide)
  rw [ra_gk hk26] at hp28_12
  have hp28_17 := hp28o 17 (by decide)
  rw [ra_gk hk26] at hp28_17
  have hF29 := Fr_tr (lo := 179) (hi := 189) hF22 hs27 (by omega)
  have hk30 : s27 (183) = σ (183) := (hs27 (183) (by omega)).trans hk23
  have hk31 : s27 (184) = σ (184) := (hs27 (184) (by omega)).trans hk24
  have hk32 : s27 (187) = σ (187) := (hs27 (187) (by omega)).trans hk25
  refine ra_load rfl rfl rfl rfl ?_
  refine ra_iconst rfl ?_
  refine ra_putI rfl lk_8_218 (Nat.zero_le _) sh_179 rfl rfl ?_
  refine ra_newU (by first | omega | (unfold ra_in at *; omega)) (fun s33 hs33 hp34 hp34o => ?_)
  have hp34_12 := hp34o 12 (by decide)
  have hp34_17 := hp34o 17 (by decide)
  have hF35 := Fr_tr (lo := 179) (hi := 189) hF29 hs33 (by omega)
  have hk36 : s33 (183) = σ (183) := (hs33 (183) (by omega)).trans hk30
  have hk37 : s33 (184) = σ (184) := (hs33 (184) (by omega)).trans hk31
  have hk38 : s33 (187) = σ (187) := (hs33 (187) (by omega)).trans hk32
  refine ra_load rfl rfl rfl rfl ?_
  refine ra_iconst rfl ?_
  refine ra_putI rfl lk_8_192 (Nat.zero_le _) sh_179 rfl rfl ?_
  refine ra_newU (by first | omega | (unfold ra_in at *; omega)) (fun s39 hs39 hp40 hp40o => ?_)
  have hp40_12 := hp40o 12 (by decide)
  have hF41 := Fr_tr (lo := 179) (hi := 189) hF35 hs39 (by omega)
  have hk42 : s39 (183) = σ (183) := (hs39 (183) (by omega)).trans hk36
  have hk43 : s39 (184) = σ (184) := (hs39 (184) (by omega)).trans hk37
  have hk44 : s39 (187) = σ (187) := (hs39 (187) (by omega)).trans hk38
  refine ra_load rfl rfl rfl rfl ?_
  refine ra_iconst rfl ?_
  refine ra_putI rfl lk_8_243 (Nat.zero_le _) sh_179 rfl rfl ?_
  refine ra_newU (by first | omega | (unfold ra_in at *; omega)) (fun s45 hs45 hp46 hp46o => ?_)
  have hp46_12 := hp46o 12 (by decide)
  have hp46_17 := hp46o 17 (by decide)
  have hF47 := Fr_tr (lo := 179) (hi := 189) hF41 hs45 (by omega)
  have hk48 : s45 (183) = σ (183) := (hs45 (183) (by omega)).trans hk42
  have hk49 : s45 (184) = σ (184) := (hs45 (184) (by omega)).trans hk43
  have hk50 : s45 (187) = σ (187) := (hs45 (187) (by omega)).trans hk44
  have q12 : ra_g s45 179 12 = ra_g σ 179 12 := ((hp46o 12 (by decide)).trans ((hp40o 12 (by decide)).trans ((hp34o 12 (by decide)).trans ((hp28o 12 (by decide)).trans ((ra_gk (hf16 179 (by omega))).trans ((ra_gk (hf8 179 (by omega))).trans (hp2o 12 (by decide))))))))
  have q17 : ra_g s45 179 17 = 0 := by omega
  refine ra_load rfl rfl rfl rfl ?_
  refine ra_cV (s4_250 (by omega) (x4TR_k ((hp46o 12 (by decide)).trans ((hp40o 12 (by decide)).trans ((hp34o 12 (by decide)).trans ((hp28o 12 (by decide)).trans ((ra_gk (hf16 179 (by omega))).trans ((ra_gk (hf8 179 (by omega))).trans (hp2o 12 (by decide)))))))) ((hs45 (187) (by omega)).trans ((hs39 (187) (by omega)).trans ((hs33 (187) (by omega)).trans ((hs27 (187) (by omega)).trans ((hf16 (187) (by omega)).trans ((hf8 (187) (by omega)).trans (hs1 (187) (by omega)))))))) hB) (show ra_g s45 179 17 = ((0 : Nat) : Int) by omega) (Nat.zero_le _)) rfl (ct_250 rfl lk_8_240 (Or.inl rfl) sh_179 (Nat.le_of_ble_eq_true rfl)) (fun s51 hs51 => ?_)
  obtain ⟨hf52, he53, he54, he55, he56⟩ := hs51
  have hF57 := Fr_tr (lo := 179) (hi := 189) hF47 hf52 (by omega)
  have hk58 : s51 (183) = σ (183) := (hf52 (183) (by omega)).trans hk48
  have hk59 : s51 (184) = σ (184) := (hf52 (184) (by omega)).trans hk49
  have hk60 : s51 (187) = σ (187) := (hf52 (187) (by omega)).trans hk50
  refine ra_load rfl rfl rfl rfl ?_
  refine ra_cQPs (s9_261 he54 (LD_k ((hf52 180 (by omega)).trans ((hs45 180 (by omega)).trans ((hs39 180 (by omega)).trans ((hs33 180 (by omega)).trans (hs27 180 (by omega)))))) hl0.1) ((ra_gk ((hf52 180 (by omega)).trans ((hs45 180 (by omega)).trans ((hs39 180 (by omega)).trans ((hs33 180 (by omega)).trans (hs27 180 (by omega))))))).trans hl0b) (x4TR_k ((he53 12 (by decide) (by decide) (by decide) (by decide)).trans ((hp46o 12 (by decide)).trans ((hp40o 12 (by decide)).trans ((hp34o 12 (by decide)).trans ((hp28o 12 (by decide)).trans ((ra_gk (hf16 179 (by omega))).trans ((ra_gk (hf8 179 (by omega))).trans (hp2o 12 (by decide))))))))) ((hf52 (187) (by omega)).trans ((hs45 (187) (by omega)).trans ((hs39 (187) (by omega)).trans ((hs33 (187) (by omega)).trans ((hs27 (187) (by omega)).trans ((hf16 (187) (by omega)).trans ((hf8 (187) (by omega)).trans (hs1 (187) (by omega))))))))) hB) he56 ⟨((ra_gk ((hf52 (180) (by omega)).trans ((hs45 (180) (by omega)).trans ((hs39 (180) (by omega)).trans ((hs33 (180) (by omega)).trans (hs27 (180) (by omega))))))).trans (he18 1 (by decide) (by decide) (by decide) (by decide) (by decide))), ((ra_gk ((hf52 (180) (by omega)).trans ((hs45 (180) (by omega)).trans ((hs39 (180) (by omega)).trans ((hs33 (180) (by omega)).trans (hs27 (180) (by omega))))))).trans (he18 2 (by decide) (by decide) (by decide) (by decide) (by decide))), ((ra_gk ((hf52 (180) (by omega)).trans ((hs45 (180) (by omega)).trans ((hs39 (180) (by omega)).trans ((hs33 (180) (by omega)).trans (hs27 (180) (by omega))))))).trans he19), ((ra_gk ((hf52 (180) (by omega)).trans ((hs45 (180) (by omega)).trans ((hs39 (180) (by omega)).trans ((hs33 (180) (by omega)).trans (hs27 (180) (by omega))))))).trans he20), ((ra_gk ((hf52 (180) (by omega)).trans ((hs45 (180) (by omega)).trans ((hs39 (180) (by omega)).trans ((hs33 (180) (by omega)).trans (hs27 (180) (by omega))))))).trans (he18 5 (by decide) (by decide) (by decide) (by decide) (by decide)))⟩ ⟨(((he53 15 (by decide) (by decide) (by decide) (by decide)).trans ((hp46o 15 (by decide)).trans ((hp40o 15 (by decide)).trans (hp34o 15 (by decide))))).trans hp28), (((he53 16 (by decide) (by decide) (by decide) (by decide)).trans ((hp46o 16 (by decide)).trans (hp40o 16 (by decide)))).trans hp34), ((he53 21 (by decide) (by decide) (by decide) (by decide)).trans hp46)⟩ ⟨fun a a1 a2 a3 a4 a5 => (ra_gk ((hf52 (180) (by omega)).trans ((hs45 (180) (by omega)).trans ((hs39 (180) (by omega)).trans ((hs33 (180) (by omega)).trans (hs27 (180) (by omega))))))).trans (he18 a a1 a2 a3 a4 a5), (ra_gk ((hf52 (180) (by omega)).trans ((hs45 (180) (by omega)).trans ((hs39 (180) (by omega)).trans ((hs33 (180) (by omega)).trans (hs27 (180) (by omega))))))).trans he21⟩) rfl (ct_261 rfl lk_8_288 (Or.inl rfl) sh_179 (Nat.le_of_ble_eq_true rfl)) (fun z62 s61 hz62 hz62p hs61 => ?_)
  obtain ⟨hf63, hc64, hc65, hc66, hc67, he68, he69, he70, he71, he72⟩ := hs61
  have hF73 := Fr_tr (lo := 179) (hi := 189) hF57 hf63 (by omega)
  have hk74 : s61 (183) = σ (183) := hc66.trans hk58
  have hk75 : s61 (184) = σ (184) := hc67.trans hk59
  refine ra_store (L' := [_, _]) rfl rfl rfl (Nat.le_of_ble_eq_true rfl) rfl ?_
  refine ra_load rfl rfl rfl rfl ?_
  refine ra_iconst rfl ?_
  refine ra_putI rfl lk_8_186 (Nat.zero_le _) sh_179 rfl rfl ?_
  refine ra_newU (by first | omega | (unfold ra_in at *; omega)) (fun s76 hs76 hp77 hp77o => ?_)
  have hp77_17 := hp77o 17 (by decide)
  have hF78 := Fr_tr (lo := 179) (hi := 189) hF73 hs76 (by omega)
  have hk79 : s76 (183) = σ (183) := (hs76 (183) (by omega)).trans hk74
  have hk80 : s76 (184) = σ (184) := (hs76 (184) (by omega)).trans hk75
  refine ra_load rfl rfl rfl rfl ?_
  refine ra_load rfl rfl rfl rfl ?_
  refine ra_getI rfl lk_8_215 (Nat.zero_le _) sh_179 rfl ?_
  have hr81 : ra_in (ra_g s76 (179) 15) := (ra_in_g _ _ _)
  refine ra_putI rfl lk_8_291 (Nat.zero_le _) sh_179 rfl rfl ?_
  refine ra_newU hr81 (fun s82 hs82 hp83 hp83o => ?_)
  have hp83_12 := hp83o 12 (by decide)
  have hp83_17 := hp83o 17 (by decide)
  have hF84 := Fr_tr (lo := 179) (hi := 189) hF78 hs82 (by omega)
  have hk85 : s82 (183) = σ (183) := (hs82 (183) (by omega)).trans hk79
  have hk86 : s82 (184) = σ (184) := (hs82 (184) (by omega)).trans hk80
  refine ra_load rfl rfl rfl rfl ?_
  refine ra_load rfl rfl rfl rfl ?_
  refine ra_getI rfl lk_8_218 (Nat.zero_le _) sh_179 rfl ?_
  have hr87 : ra_in (ra_g s82 (179) 16) := (ra_in_g _ _ _)
  refine ra_putI rfl lk_8_34 (Nat.zero_le _) sh_179 rfl rfl ?_
  refine ra_newU hr87 (fun s88 hs88 hp89 hp89o => ?_)
  have hp89_12 := hp89o 12 (by decide)
  have hp89_17 := hp89o 17 (by decide)
  have hF90 := Fr_tr (lo := 179) (hi := 189) hF84 hs88 (by omega)
  have hk91 : s88 (183) = σ (183) := (hs88 (183) (by omega)).trans hk85
  have hk92 : s88 (184) = σ (184) := (hs88 (184) (by omega)).trans hk86
  refine ra_load rfl rfl rfl rfl ?_
  refine ra_ifne rfl rfl (ra_in01 hz62) (fun h93 => ?_) (fun h93 => ?_)
  · refine ra_load rfl rfl rfl rfl ?_
    refine ra_iconst rfl ?_
    refine ra_putI rfl lk_8_54 (Nat.zero_le _) sh_179 rfl rfl ?_
    refine ra_newU (by first | omega | (unfold ra_in at *; omega)) (fun s94 hs94 hp95 hp95o => ?_)
    have hp95_12 := hp95o 12 (by decide)
    have hp95_17 := hp95o 17 (by decide)
    have hF96 := Fr_tr (lo := 179) (hi := 189) hF90 hs94 (by omega)
    have hk97 : s94 (183) = σ (183) := (hs94 (183) (by omega)).trans hk91
    have hk98 : s94 (184) = σ (184) := (hs94 (184) (by omega)).trans hk92
    refine ra_load rfl rfl rfl rfl ?_
    refine ra_iconst rfl ?_
    refine ra_putB rfl lk_8_294 (Nat.zero_le _) sh_179 rfl rfl (Or.inl rfl) ?_
    refine ra_newU (ra_in01 (Or.inl rfl)) (fun s99 hs99 hp100 hp100o => ?_)
    have hp100_12 := hp100o 12 (by decide)
    have hp100_17 := hp100o 17 (by decide)
    have hF101 := Fr_tr (lo := 179) (hi := 189) hF96 hs99 (by omega)
    have hk102 : s99 (183) = σ (183) := (hs99 (183) (by omega)).trans hk97
    have hk103 : s99 (184) = σ (184) := (hs99 (184) (by omega)).trans hk98
    refine ra_load rfl rfl rfl rfl ?_
    refine ra_cIPp (s4_203 (LD_k ((hs99 (180) (by omega)).trans ((hs94 (180) (by omega)).trans ((hs88 (180) (by omega)).trans ((hs82 (180) (by omega)).trans (hs76 (180) (by omega)))))) he69)) rfl (ct_203 rfl lk_8_298 (Or.inl rfl) sh_179 (Nat.le_of_ble_eq_true rfl)) (fun z105 hz105 hz105p => ?_)
    exact ra_ireturn rfl rfl ⟨(congrArg (fun z => Sum.inl (some (ra_I z))) (x5rp_y6 hz62p (by omega) (hz105p.trans (ra_gk ((hs99 (180) (by omega)).trans ((hs94 (180) (by omega)).trans ((hs88 (180) (by omega)).trans ((hs82 (180) (by omega)).trans (hs76 (180) (by omega)))))))))), ⟨hF101, hk102, (fun a h5 h6 h7 h12 h13 h14 h15 h16 h17 h18 h19 h20 h21 => ((hp100o a (by assumption)).trans ((hp95o a (by assumption)).trans ((hp89o a (by assumption)).trans ((hp83o a (by assumption)).trans ((hp77o a (by assumption)).trans ((he68 a h15 h16 h17 h18 h19 h20 h21).trans ((he53 a h17 h18 h19 h20).trans ((hp46o a (by assumption)).trans ((hp40o a (by assumption)).trans ((hp34o a (by assumption)).trans ((hp28o a (by assumption)).trans ((ra_gk (hf16 179 (by omega))).trans ((ra_gk (hf8 179 (by omega))).trans (hp2o a (by assumption)))))))))))))))), (((hp100o 12 (by decide)).trans ((hp95o 12 (by decide)).trans ((hp89o 12 (by decide)).trans (hp83o 12 (by decide))))).trans hp77), (fun q => absurd hp100 q), (LD_k ((hs99 180 (by omega)).trans ((hs94 180 (by omega)).trans ((hs88 180 (by omega)).trans ((hs82 180 (by omega)).trans (hs76 180 (by omega)))))) he69).1, (pw_0 ((hp100o 5 (by decide)).trans hp95)), ((((hp100o 13 (by decide)).trans ((hp95o 13 (by decide)).trans (hp89o 13 (by decide))))).trans (hp83.trans (((hp77o 15 (by decide))).trans (x5rp_26 hz62p)))), ((((hp100o 14 (by decide)).trans (hp95o 14 (by decide)))).trans (hp89.trans ((((hp83o 16 (by decide)).trans (hp77o 16 (by decide)))).trans (x5rp_36 hz62p)))), (fun r hr => ⟨x5rp6_sc hz62p hr ((hs99 (180) (by omega)).trans ((hs94 (180) (by omega)).trans ((hs88 (180) (by omega)).trans ((hs82 (180) (by omega)).trans (hs76 (180) (by omega)))))), ((hp100o 5 (by decide))).trans hp95, (rfl).trans hp100, x5rp6_w3 hz62p hr ((hs99 (180) (by omega)).trans ((hs94 (180) (by omega)).trans ((hs88 (180) (by omega)).trans ((hs82 (180) (by omega)).trans (hs76 (180) (by omega))))))⟩), (fun u hu => absurd hu (x5rp6_nl hz62p (by omega)))⟩⟩
  · refine ra_load rfl rfl rfl rfl ?_
    refine ra_getR rfl lk_8_13 (Nat.zero_le _) sh_179 rfl ?_
    refine ra_iconst rfl ?_
    refine ra_load rfl rfl rfl rfl ?_
    refine ra_getR rfl lk_8_7 (Nat.zero_le _) sh_179 rfl ?_
    refine ra_iconst rfl ?_
    refine ra_sipush rfl (by decide) ?_
    refine ra_cV (sp_195 sh_181 (by decide) (by first | omega | (unfold ra_in at *; omega)) sh_180 (by decide) (by first | omega | (unfold ra_in at *; omega)) (by first | omega | (unfold ra_in at *; omega)) (by first | assumption | rfl | omega) (by first | assumption | rfl | omega)) rfl (ct_195 rfl lk_8_57 (Or.inl rfl) (Nat.le_of_ble_eq_true rfl)) (fun s106 hs106 => ?_)
    obtain ⟨hf107, he108⟩ := hs106
    have hF109 := Fr_tr (lo := 179) (hi := 189) hF90 hf107 (by omega)
    have hk110 : s106 (183) = σ (183) := (hf107 (183) (by omega)).trans hk91
    have hk111 : s106 (184) = σ (184) := (hf107 (184) (by omega)).trans hk92
    have hk112 : s106 (179) = s88 (179) := (hf107 (179) (by omega))
    refine ra_iconst rfl ?_
    exact ra_ireturn rfl rfl ⟨(congrArg (fun z => Sum.inl (some (ra_I z))) (x5rp_m6 hz62p (by omega))), ⟨hF109, hk110, (fun a h5 h6 h7 h12 h13 h14 h15 h16 h17 h18 h19 h20 h21 => ((ra_gk (hf107 179 (by omega))).trans ((hp89o a (by assumption)).trans ((hp83o a (by assumption)).trans ((hp77o a (by assumption)).trans ((he68 a h15 h16 h17 h18 h19 h20 h21).trans ((he53 a h17 h18 h19 h20).trans ((hp46o a (by assumption)).trans ((hp40o a (by assumption)).trans ((hp34o a (by assumption)).trans ((hp28o a (by assumption)).trans ((ra_gk (hf16 179 (by omega))).trans ((ra_gk (hf8 179 (by omega))).trans (hp2o a (by assumption))))))))))))))), (((ra_gk (hf107 179 (by omega))).trans ((hp89o 12 (by decide)).trans (hp83o 12 (by decide)))).trans hp77), (fun q => by have e := ((ra_gk (hf107 179 (by omega))).trans ((hp89o 6 (by decide)).trans ((hp83o 6 (by decide)).trans ((hp77o 6 (by decide)).trans ((he68 6 (by decide) (by decide) (by decide) (by decide) (by decide) (by decide) (by decide)).trans ((he53 6 (by decide) (by decide) (by decide) (by decide)).trans ((hp46o 6 (by decide)).trans ((hp40o 6 (by decide)).trans ((hp34o 6 (by decide)).trans ((hp28o 6 (by decide)).trans ((ra_gk (hf16 179 (by omega))).trans ((ra_gk (hf8 179 (by omega))).trans (hp2o 6 (by decide)))))))))))))); omega), (kp_w hw (hs1 180 (by omega)) he9 ((hs88 181 (by omega)).trans ((hs82 181 (by omega)).trans ((hs76 181 (by omega)).trans (hc64.trans ((hf52 181 (by omega)).trans ((hs45 181 (by omega)).trans ((hs39 181 (by omega)).trans ((hs33 181 (by omega)).trans ((hs27 181 (by omega)).trans (hf16 181 (by omega))))))))))) he108), (PW_k hpw ((ra_gk (hf107 179 (by omega))).trans ((hp89o 5 (by decide)).trans ((hp83o 5 (by decide)).trans ((hp77o 5 (by decide)).trans ((he68 5 (by decide) (by decide) (by decide) (by decide) (by decide) (by decide) (by decide)).trans ((he53 5 (by decide) (by decide) (by decide) (by decide)).trans ((hp46o 5 (by decide)).trans ((hp40o 5 (by decide)).trans ((hp34o 5 (by decide)).trans ((hp28o 5 (by decide)).trans ((ra_gk (hf16 179 (by omega))).trans ((ra_gk (hf8 179 (by omega))).trans (hp2o 5 (by decide)))))))))))))) hk111), ((((ra_gk (hf107 179 (by omega))).trans (hp89o 13 (by decide)))).trans (hp83.trans (((hp77o 15 (by decide))).trans (x5rp_26 hz62p)))), (((ra_gk (hf107 179 (by omega)))).trans (hp89.trans ((((hp83o 16 (by decide)).trans (hp77o 16 (by decide)))).trans (x5rp_36 hz62p)))), (fun r hr => absurd hr (x5rp6_nr hz62p (by omega))), (fun u _ => ⟨x5ld_f (hs1 (180) (by omega)) he9 ((hs88 (181) (by omega)).trans ((hs82 (181) (by omega)).trans ((hs76 (181) (by omega)).trans (hc64.trans ((hf52 (181) (by omega)).trans ((hs45 (181) (by omega)).trans ((hs39 (181) (by omega)).trans ((hs33 (181) (by omega)).trans ((hs27 (181) (by omega)).trans (hf16 (181) (by omega))))))))))) he108, ((ra_gk (hf107 179 (by omega))).trans ((hp89o 5 (by decide)).trans ((hp83o 5 (by decide)).trans ((hp77o 5 (by decide)).trans ((he68 5 (by decide) (by decide) (by decide) (by decide) (by decide) (by decide) (by decide)).trans ((he53 5 (by decide) (by decide) (by decide) (by decide)).trans ((hp46o 5 (by decide)).trans ((hp40o 5 (by decide)).trans ((hp34o 5 (by decide)).trans ((hp28o 5 (by decide)).trans ((ra_gk (hf16 179 (by omega))).trans ((ra_gk (hf8 179 (by omega))).trans (hp2o 5 (by decide)))))))))))))), ((ra_gk (hf107 179 (by omega))).trans ((hp89o 6 (by decide)).trans ((hp83o 6 (by decide)).trans ((hp77o 6 (by decide)).trans ((he68 6 (by decide) (by decide) (by decide) (by decide) (by decide) (by decide) (by decide)).trans ((he53 6 (by decide) (by decide) (by decide) (by decide)).trans ((hp46o 6 (by decide)).trans ((hp40o 6 (by decide)).trans ((hp34o 6 (by decide)).trans ((hp28o 6 (by decide)).trans ((ra_gk (hf16 179 (by omega))).trans ((ra_gk (hf8 179 (by omega))).trans (hp2o 6 (by decide)))))))))))))), hk111⟩)⟩⟩
end
