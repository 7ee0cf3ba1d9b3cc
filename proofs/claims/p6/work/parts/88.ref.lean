/-! the reference: what its methods do (printed by wip/gen/ref.py) -/
section RB
theorem lp_245_3 {n : Nat} {f : Nat → Int32} {d : Nat} {x0 : Int} {σ : ra_V} (hx0 : ra_in x0) (hn : 0 ≤ ra_g σ 179 12 ∧ ra_g σ 179 12 + 4 ≤ 500) : ∀ (nn : Nat) (v2 : Int) (s : ra_V) (hv2_0 : -8 ≤ v2) (hv2_1 : v2 ≤ 24) (hv2_2 : v2 % 8 = 0) (hF : Fr (179) (188) σ s) (hk0 : s (180) = σ (180)) (hk1 : s (183) = σ (183)) (hk2 : s (184) = σ (184)) (ho12 : ∀ a, a ≠ 12 → ra_g s 179 a = ra_g σ 179 a) (hn12 : 8 * ra_g s 179 12 = 8 * ra_g σ 179 12 + 24 - v2) (hm : ((v2 + 9 : Int)).toNat < nn), ra_P (g_Gs n f) g_sh 0 (d + 0) g_m_X8_appendWord 3 [some (.index (179)), some (ra_I x0), some (ra_I v2)] [] s (fun r s => rV r ∧ Fr (179) (188) σ s ∧ s (180) = σ (180) ∧ s (183) = σ (183) ∧ s (184) = σ (184) ∧ (∀ a, a ≠ 12 → ra_g s 179 a = ra_g σ 179 a) ∧ ra_g s 179 12 = ra_g σ 179 12 + 4) := by
  intro nn
  induction nn with
  | zero => intro v2 s hv2_0 hv2_1 hv2_2 hF hk0 hk1 hk2 ho12 hn12 hm; exact absurd hm (Nat.not_lt_zero _)
  | succ nn ih =>
    intro v2 s hv2_0 hv2_1 hv2_2 hF hk0 hk1 hk2 ho12 hn12 hm
    refine ra_load rfl rfl rfl rfl ?_
    refine ra_iflt rfl rfl (by first | omega | (unfold ra_in at *; omega)) (fun h1 => ?_) (fun h1 => ?_)
    · exact ra_return rfl rfl ⟨rfl, ⟨hF, hk0, hk1, hk2, ho12, by omega⟩⟩
    · refine ra_load rfl rfl rfl rfl ?_
      refine ra_getR rfl lk_8_31 (Nat.zero_le _) sh_179 rfl ?_
      refine ra_load rfl rfl rfl rfl ?_
      refine ra_getI rfl lk_8_186 (Nat.zero_le _) sh_179 rfl ?_
      have hr2 : ra_in (ra_g s (179) 12) := (ra_in_g _ _ _)
      refine ra_load rfl rfl rfl rfl ?_
      refine ra_load rfl rfl rfl rfl ?_
      refine ra_ishr rfl ?_
      refine ra_sipush rfl (by decide) ?_
      refine ra_iand rfl ?_
      refine ra_iastore rfl sh_187 rfl (by decide) (by first | omega | (unfold ra_in at *; omega)) (by first | omega | (unfold ra_in at *; omega)) ?_
      refine ra_newR (ra_in_op _ _ _) (fun s3 hs3 hs3v hs3o => ?_)
      have hF4 := Fr_tr (lo := 179) (hi := 188) hF hs3 (by omega)
      have hk5 : s3 (180) = σ (180) := (hs3 (180) (by omega)).trans hk0
      have hk6 : s3 (183) = σ (183) := (hs3 (183) (by omega)).trans hk1
      have hk7 : s3 (184) = σ (184) := (hs3 (184) (by omega)).trans hk2
      have hk8 : s3 (179) = s (179) := (hs3 (179) (by omega))
      refine ra_load rfl rfl rfl rfl ?_
      refine ra_dup rfl rfl ?_
      refine ra_getI rfl lk_8_186 (Nat.zero_le _) sh_179 rfl ?_
      rw [ra_gk hk8]
      have hr9 : ra_in (ra_g s (179) 12) := (ra_in_g _ _ _)
      refine ra_iconst rfl ?_
      refine ra_iadd rfl ?_
      refine ra_putI rfl lk_8_186 (Nat.zero_le _) sh_179 rfl rfl ?_
      refine ra_newU (by first | omega | (unfold ra_in at *; omega)) (fun s10 hs10 hp11 hp11o => ?_)
      have hp11_99 := hp11o 99 (by decide)
      rw [ra_gk hk8] at hp11_99
      have hF12 := Fr_tr (lo := 179) (hi := 188) hF4 hs10 (by omega)
      have hk13 : s10 (180) = σ (180) := (hs10 (180) (by omega)).trans hk5
      have hk14 : s10 (183) = σ (183) := (hs10 (183) (by omega)).trans hk6
      have hk15 : s10 (184) = σ (184) := (hs10 (184) (by omega)).trans hk7
      refine ra_iinc (L' := [_, _, _]) rfl rfl (Nat.le_of_ble_eq_true rfl) rfl ?_
      refine ra_goto rfl rfl ?_
      exact ra_weak (by repeat' constructor) (ih (v2 + (-8)) s10 (by first | omega | (unfold ra_in at *; omega)) (by first | omega | (unfold ra_in at *; omega)) (by first | omega | (unfold ra_in at *; omega)) hF12 hk13 hk14 hk15 (fun a h => (hp11o a h).trans ((ra_gk (hs3 179 (by omega))).trans (ho12 a h))) (by omega) (by first | omega | (unfold ra_in at *; omega)))
theorem sp_245 {n : Nat} {f : Nat → Int32} {d : Nat} {x0 : Int} {σ : ra_V} (hx0 : ra_in x0) (hn : 0 ≤ ra_g σ 179 12 ∧ ra_g σ 179 12 + 4 ≤ 500) : ra_C (g_Gs n f) g_sh 0 (d + 1) 245 [.index (179), ra_I x0] σ (fun r s => rV r ∧ Fr (179) (188) σ s ∧ s (180) = σ (180) ∧ s (183) = σ (183) ∧ s (184) = σ (184) ∧ (∀ a, a ≠ 12 → ra_g s 179 a = ra_g σ 179 a) ∧ ra_g s 179 12 = ra_g σ 179 12 + 4) := by
  refine ra_enter (nn := 1) mt_245 rfl (Nat.le_of_ble_eq_true rfl) rfl (fun h => absurd h (by decide +kernel)) ?_
  refine ra_bipush rfl (by decide) ?_
  refine ra_store (L' := [_, _, _]) rfl rfl rfl (Nat.le_of_ble_eq_true rfl) rfl ?_
  exact ra_weak (by repeat' constructor) (lp_245_3 hx0 hn _ (24) σ (by first | omega | (unfold ra_in at *; omega)) (by first | omega | (unfold ra_in at *; omega)) (by first | omega | (unfold ra_in at *; omega)) Fr_rf rfl rfl rfl (fun _ _ => rfl) (by omega) (Nat.lt_succ_self _))
theorem sp_246 {n : Nat} {f : Nat → Int32} {d : Nat} {x0 : Int} {x1 : Int} {x2 : Int} {x3 : Int} {x4 : Int} {σ : ra_V} (hx0 : ra_in x0) (hx1 : ra_in x1) (hx2 : ra_in x2) (hx3 : ra_in x3) (hx4 : ra_in x4) (hn0 : 0 ≤ ra_g σ 179 12 ∧ ra_g σ 179 12 ≤ 500) : ra_C (g_Gs n f) g_sh 0 (d + 2) 246 [.index (179), ra_I x0, ra_I x1, ra_I x2, ra_I x3, ra_I x4] σ (fun r s => rI r ∧ Fr (179) (188) σ s ∧ s (180) = σ (180) ∧ s (183) = σ (183) ∧ s (184) = σ (184) ∧ (∀ a, a ≠ 7 → a ≠ 12 → ra_g s 179 a = ra_g σ 179 a) ∧ (ra_g σ 179 12 + 20 ≤ 500 → ra_g s 179 12 = ra_g σ 179 12 + 20) ∧ (500 < ra_g σ 179 12 + 20 → ra_g s 179 12 = ra_g σ 179 12)) := by
  refine ra_enter (nn := 0) mt_246 rfl (Nat.le_of_ble_eq_true rfl) rfl (fun h => absurd h (by decide +kernel)) ?_
  refine ra_load rfl rfl rfl rfl ?_
  refine ra_iconst rfl ?_
  refine ra_putI rfl lk_8_51 (Nat.zero_le _) sh_179 rfl rfl ?_
  refine ra_newU (by first | omega | (unfold ra_in at *; omega)) (fun s1 hs1 hp2 hp2o => ?_)
  have hp2_12 := hp2o 12 (by decide)
  have hF3 := Fr_tr (lo := 179) (hi := 188) Fr_rf hs1 (by omega)
  have hk4 : s1 (180) = σ (180) := (hs1 (180) (by omega))
  have hk5 : s1 (183) = σ (183) := (hs1 (183) (by omega))
  have hk6 : s1 (184) = σ (184) := (hs1 (184) (by omega))
  refine ra_load rfl rfl rfl rfl ?_
  refine ra_getI rfl lk_8_186 (Nat.zero_le _) sh_179 rfl ?_
  have hr7 : ra_in (ra_g s1 (179) 12) := (ra_in_g _ _ _)
  refine ra_bipush rfl (by decide) ?_
  refine ra_iadd rfl ?_
  refine ra_sipush rfl (by decide) ?_
  refine ra_icle rfl rfl (by first | omega | (unfold ra_in at *; omega)) (by first | omega | (unfold ra_in at *; omega)) (fun h8 => ?_) (fun h8 => ?_)
  · refine ra_load rfl rfl rfl rfl ?_
    refine ra_load rfl rfl rfl rfl ?_
    refine ra_cV (sp_245 hx0 (by first | assumption | rfl | omega)) rfl (ct_245 rfl lk_8_189 (Or.inl rfl) sh_179 (Nat.le_of_ble_eq_true rfl)) (fun s9 hs9 => ?_)
    obtain ⟨hf10, hc11, hc12, hc13, he14, he15⟩ := hs9
    have hF16 := Fr_tr (lo := 179) (hi := 188) hF3 hf10 (by omega)
    have hk17 : s9 (180) = σ (180) := hc11.trans hk4
    have hk18 : s9 (183) = σ (183) := hc12.trans hk5
    have hk19 : s9 (184) = σ (184) := hc13.trans hk6
    refine ra_load rfl rfl rfl rfl ?_
    refine ra_load rfl rfl rfl rfl ?_
    refine ra_cV (sp_245 hx1 (by first | assumption | rfl | omega)) rfl (ct_245 rfl lk_8_189 (Or.inl rfl) sh_179 (Nat.le_of_ble_eq_true rfl)) (fun s20 hs20 => ?_)
    obtain ⟨hf21, hc22, hc23, hc24, he25, he26⟩ := hs20
    have hF27 := Fr_tr (lo := 179) (hi := 188) hF16 hf21 (by omega)
    have hk28 : s20 (180) = σ (180) := hc22.trans hk17
    have hk29 : s20 (183) = σ (183) := hc23.trans hk18
    have hk30 : s20 (184) = σ (184) := hc24.trans hk19
    refine ra_load rfl rfl rfl rfl ?_
    refine ra_load rfl rfl rfl rfl ?_
    refine ra_cV (sp_245 hx2 (by first | assumption | rfl | omega)) rfl (ct_245 rfl lk_8_189 (Or.inl rfl) sh_179 (Nat.le_of_ble_eq_true rfl)) (fun s31 hs31 => ?_)
    obtain ⟨hf32, hc33, hc34, hc35, he36, he37⟩ := hs31
    have hF38 := Fr_tr (lo := 179) (hi := 188) hF27 hf32 (by omega)
    have hk39 : s31 (180) = σ (180) := hc33.trans hk28
    have hk40 : s31 (183) = σ (183) := hc34.trans hk29
    have hk41 : s31 (184) = σ (184) := hc35.trans hk30
    refine ra_load rfl rfl rfl rfl ?_
    refine ra_load rfl rfl rfl rfl ?_
    refine ra_cV (sp_245 hx3 (by first | assumption | rfl | omega)) rfl (ct_245 rfl lk_8_189 (Or.inl rfl) sh_179 (Nat.le_of_ble_eq_true rfl)) (fun s42 hs42 => ?_)
    obtain ⟨hf43, hc44, hc45, hc46, he47, he48⟩ := hs42
    have hF49 := Fr_tr (lo := 179) (hi := 188) hF38 hf43 (by omega)
    have hk50 : s42 (180) = σ (180) := hc44.trans hk39
    have hk51 : s42 (183) = σ (183) := hc45.trans hk40
    have hk52 : s42 (184) = σ (184) := hc46.trans hk41
    refine ra_load rfl rfl rfl rfl ?_
    refine ra_load rfl rfl rfl rfl ?_
    refine ra_cV (sp_245 hx4 (by first | assumption | rfl | omega)) rfl (ct_245 rfl lk_8_189 (Or.inl rfl) sh_179 (Nat.le_of_ble_eq_true rfl)) (fun s53 hs53 => ?_)
    obtain ⟨hf54, hc55, hc56, hc57, he58, he59⟩ := hs53
    have hF60 := Fr_tr (lo := 179) (hi := 188) hF49 hf54 (by omega)
    have hk61 : s53 (180) = σ (180) := hc55.trans hk50
    have hk62 : s53 (183) = σ (183) := hc56.trans hk51
    have hk63 : s53 (184) = σ (184) := hc57.trans hk52
    refine ra_load rfl rfl rfl rfl ?_
    refine ra_getI rfl lk_8_186 (Nat.zero_le _) sh_179 rfl ?_
    have hr64 : ra_in (ra_g s53 (179) 12) := (ra_in_g _ _ _)
    exact ra_ireturn rfl rfl ⟨⟨_, hr64, rfl⟩, ⟨hF60, hk61, hk62, hk63, (fun a h7 h12 => ((he58 a h12).trans ((he47 a h12).trans ((he36 a h12).trans ((he25 a h12).trans ((he14 a h12).trans (hp2o a h7))))))), (fun q => by omega), (fun q => by omega)⟩⟩
  · refine ra_iconst rfl ?_
    exact ra_ireturn rfl rfl ⟨⟨_, (by first | omega | (unfold ra_in at *; omega)), rfl⟩, ⟨hF3, hk4, hk5, hk6, (fun a h7 h12 => (hp2o a h7)), (fun q => by omega), (fun q => by omega)⟩⟩
end RB
