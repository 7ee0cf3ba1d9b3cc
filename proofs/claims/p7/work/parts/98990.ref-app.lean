/-! T4: what the reference's methods that read a text do (printed by wip/gen/r4.py) -/
section
variable {B : Nat → Int} {bn ps ta ti : Nat} {r : Nat → Int}
theorem l4_246_3 {n : Nat} {f : Nat → Int32} {d : Nat} {x0 : Int} {σ : ra_V} (hx0 : ra_in x0) (hn : 0 ≤ ra_g σ 179 12 ∧ ra_g σ 179 12 + 4 ≤ 500) : ∀ (nn : Nat) (v2 : Int) (s : ra_V) (hv2_0 : -8 ≤ v2) (hv2_1 : v2 ≤ 24) (hv2_2 : v2 % 8 = 0) (hF : Fr (179) (188) σ s) (hk0 : s (180) = σ (180)) (hk1 : s (183) = σ (183)) (hk2 : s (184) = σ (184)) (ho12 : ∀ a, a ≠ 12 → ra_g s 179 a = ra_g σ 179 a) (hn12 : 8 * ra_g s 179 12 = 8 * ra_g σ 179 12 + 24 - v2) (hap : ∀ i : Nat, (i : Int) < ra_g s 179 12 → ra_g s 187 i = x4ap8 (ra_g σ 187) (ra_g σ 179 12).toNat x0 i) (hm : ((v2 + 9 : Int)).toNat < nn), ra_P (g_Gs n f) g_sh 0 (d + 0) g_m_X8_appendWord 3 [some (.index (179)), some (ra_I x0), some (ra_I v2)] [] s (fun r9 s => rV r9 ∧ Fr (179) (188) σ s ∧ s (180) = σ (180) ∧ s (183) = σ (183) ∧ s (184) = σ (184) ∧ (∀ a, a ≠ 12 → ra_g s 179 a = ra_g σ 179 a) ∧ ra_g s 179 12 = ra_g σ 179 12 + 4 ∧ ∀ i : Nat, (i : Int) < ra_g σ 179 12 + 4 → ra_g s 187 i = x4ap8 (ra_g σ 187) (ra_g σ 179 12).toNat x0 i) := by
  intro nn
  induction nn with
  | zero => intro v2 s hv2_0 hv2_1 hv2_2 hF hk0 hk1 hk2 ho12 hn12 hap hm; exact absurd hm (Nat.not_lt_zero _)
  | succ nn ih =>
    intro v2 s hv2_0 hv2_1 hv2_2 hF hk0 hk1 hk2 ho12 hn12 hap hm
    refine ra_load rfl rfl rfl rfl ?_
    refine ra_iflt rfl rfl (by first | omega | (unfold ra_in at *; omega)) (fun h1 => ?_) (fun h1 => ?_)
    · exact ra_return rfl rfl ⟨rfl, ⟨hF, hk0, hk1, hk2, ho12, by omega, fun i hi => hap i (by omega)⟩⟩
    · refine ra_load rfl rfl rfl rfl ?_
      refine ra_getR rfl lk_8_31 (Nat.zero_le _) sh_179 rfl ?_
      refine ra_load rfl rfl rfl rfl ?_
      refine ra_getI rfl lk_8_186 (Nat.zero_le _) sh_179 rfl ?_
      have hr2 : ra_in (ra_g s (179) 12) := (ra_in_g _ _ _)
      refine ra_load rfl rfl rfl rfl ?_
      refine ra_load rfl rfl rfl rfl ?_
      refine ra_ishr rfl ?_
      refine ra_sipush rfl (by decide) ?_
      refine ra_iand rfl ?_
      refine ra_iastore rfl sh_187 rfl (by decide) (by first | omega | (unfold ra_in at *; omega)) (by first | omega | (unfold ra_in at *; omega)) ?_
      refine ra_newR (ra_in_op _ _ _) (fun s3 hs3 hs3v hs3o => ?_)
      have hF4 := Fr_tr (lo := 179) (hi := 188) hF hs3 (by omega)
      have hk5 : s3 (180) = σ (180) := (hs3 (180) (by omega)).trans hk0
      have hk6 : s3 (183) = σ (183) := (hs3 (183) (by omega)).trans hk1
      have hk7 : s3 (184) = σ (184) := (hs3 (184) (by omega)).trans hk2
      have hk8 : s3 (179) = s (179) := (hs3 (179) (by omega))
      refine ra_load rfl rfl rfl rfl ?_
      refine ra_dup rfl rfl ?_
      refine ra_getI rfl lk_8_186 (Nat.zero_le _) sh_179 rfl ?_
      rw [ra_gk hk8]
      have hr9 : ra_in (ra_g s (179) 12) := (ra_in_g _ _ _)
      refine ra_iconst rfl ?_
      refine ra_iadd rfl ?_
      refine ra_putI rfl lk_8_186 (Nat.zero_le _) sh_179 rfl rfl ?_
      refine ra_newU (by first | omega | (unfold ra_in at *; omega)) (fun s10 hs10 hp11 hp11o => ?_)
      have hp11_99 := hp11o 99 (by decide)
      rw [ra_gk hk8] at hp11_99
      have hF12 := Fr_tr (lo := 179) (hi := 188) hF4 hs10 (by omega)
      have hk13 : s10 (180) = σ (180) := (hs10 (180) (by omega)).trans hk5
      have hk14 : s10 (183) = σ (183) := (hs10 (183) (by omega)).trans hk6
      have hk15 : s10 (184) = σ (184) := (hs10 (184) (by omega)).trans hk7
      refine ra_iinc (L' := [_, _, _]) rfl rfl (Nat.le_of_ble_eq_true rfl) rfl ?_
      refine ra_goto rfl rfl ?_
      exact ra_weak (by repeat' constructor) (ih (v2 + (-8)) s10 (by first | omega | (unfold ra_in at *; omega)) (by first | omega | (unfold ra_in at *; omega)) (by first | omega | (unfold ra_in at *; omega)) hF12 hk13 hk14 hk15 (fun a h => (hp11o a h).trans ((ra_gk (hs3 179 (by omega))).trans (ho12 a h))) (by omega) (fun i hi => (ra_gk (hs10 187 (by omega))).trans (x4ap_s (p := (ra_g s 179 12).toNat) (fun i hi => hap i (by omega)) hs3v hs3o (by omega) (x4b8_s (by omega)) i (by omega))) (by first | omega | (unfold ra_in at *; omega)))
theorem s4_246 {n : Nat} {f : Nat → Int32} {d : Nat} {x0 : Int} {σ : ra_V} (hx0 : ra_in x0) (hn : 0 ≤ ra_g σ 179 12 ∧ ra_g σ 179 12 + 4 ≤ 500) : ra_C (g_Gs n f) g_sh 0 (d + 1) 246 [.index (179), ra_I x0] σ (fun r9 s => rV r9 ∧ Fr (179) (188) σ s ∧ s (180) = σ (180) ∧ s (183) = σ (183) ∧ s (184) = σ (184) ∧ (∀ a, a ≠ 12 → ra_g s 179 a = ra_g σ 179 a) ∧ ra_g s 179 12 = ra_g σ 179 12 + 4 ∧ ∀ i : Nat, (i : Int) < ra_g σ 179 12 + 4 → ra_g s 187 i = x4ap8 (ra_g σ 187) (ra_g σ 179 12).toNat x0 i) := by
  refine ra_enter (nn := 1) mt_246 rfl (Nat.le_of_ble_eq_true rfl) rfl (fun h => absurd h (by decide +kernel)) ?_
  refine ra_bipush rfl (by decide) ?_
  refine ra_store (L' := [_, _, _]) rfl rfl rfl (Nat.le_of_ble_eq_true rfl) rfl ?_
  exact ra_weak (by repeat' constructor) (l4_246_3 hx0 hn _ (24) σ (by first | omega | (unfold ra_in at *; omega)) (by first | omega | (unfold ra_in at *; omega)) (by first | omega | (unfold ra_in at *; omega)) Fr_rf rfl rfl rfl (fun _ _ => rfl) (by omega) (fun i hi => (x4ap_y (by omega)).symm) (Nat.lt_succ_self _))
theorem s4_247 {n : Nat} {f : Nat → Int32} {d : Nat} {x0 : Int} {x1 : Int} {x2 : Int} {x3 : Int} {x4 : Int} {σ : ra_V} (hx0 : ra_in x0) (hx1 : ra_in x1) (hx2 : ra_in x2) (hx3 : ra_in x3) (hx4 : ra_in x4) (hn0 : 0 ≤ ra_g σ 179 12 ∧ ra_g σ 179 12 ≤ 500) : ra_C (g_Gs n f) g_sh 0 (d + 2) 247 [.index (179), ra_I x0, ra_I x1, ra_I x2, ra_I x3, ra_I x4] σ (fun r9 s => rI r9 ∧ Fr (179) (188) σ s ∧ s (180) = σ (180) ∧ s (183) = σ (183) ∧ s (184) = σ (184) ∧ (∀ a, a ≠ 7 → a ≠ 12 → ra_g s 179 a = ra_g σ 179 a) ∧ (ra_g σ 179 12 + 20 ≤ 500 → ra_g s 179 12 = ra_g σ 179 12 + 20) ∧ (500 < ra_g σ 179 12 + 20 → ra_g s 179 12 = ra_g σ 179 12) ∧ (ra_g σ 179 12 + 20 ≤ 500 → ∀ i : Nat, (i : Int) < ra_g σ 179 12 + 20 → ra_g s 187 i = x4ap5 (ra_g σ 187) (ra_g σ 179 12).toNat x0 x1 x2 x3 x4 i) ∧ (500 < ra_g σ 179 12 + 20 → s 187 = σ 187)) := by
  refine ra_enter (nn := 0) mt_247 rfl (Nat.le_of_ble_eq_true rfl) rfl (fun h => absurd h (by decide +kernel)) ?_
  refine ra_load rfl rfl rfl rfl ?_
  refine ra_iconst rfl ?_
  refine ra_putI rfl lk_8_51 (Nat.zero_le _) sh_179 rfl rfl ?_
  refine ra_newU (by first | omega | (unfold ra_in at *; omega)) (fun s1 hs1 hp2 hp2o => ?_)
  have hp2_12 := hp2o 12 (by decide)
  have hF3 := Fr_tr (lo := 179) (hi := 188) Fr_rf hs1 (by omega)
  have hk4 : s1 (180) = σ (180) := (hs1 (180) (by omega))
  have hk5 : s1 (183) = σ (183) := (hs1 (183) (by omega))
  have hk6 : s1 (184) = σ (184) := (hs1 (184) (by omega))
  refine ra_load rfl rfl rfl rfl ?_
  refine ra_getI rfl lk_8_186 (Nat.zero_le _) sh_179 rfl ?_
  have hr7 : ra_in (ra_g s1 (179) 12) := (ra_in_g _ _ _)
  refine ra_bipush rfl (by decide) ?_
  refine ra_iadd rfl ?_
  refine ra_sipush rfl (by decide) ?_
  refine ra_icle rfl rfl (by first | omega | (unfold ra_in at *; omega)) (by first | omega | (unfold ra_in at *; omega)) (fun h8 => ?_) (fun h8 => ?_)
  · refine ra_load rfl rfl rfl rfl ?_
    refine ra_load rfl rfl rfl rfl ?_
    refine ra_cV (s4_246 hx0 (by first | assumption | rfl | omega)) rfl (ct_246 rfl lk_8_189 (Or.inl rfl) sh_179 (Nat.le_of_ble_eq_true rfl)) (fun s9 hs9 => ?_)
    obtain ⟨hf10, hc11, hc12, hc13, he14, he15, he16⟩ := hs9
    have hF17 := Fr_tr (lo := 179) (hi := 188) hF3 hf10 (by omega)
    have hk18 : s9 (180) = σ (180) := hc11.trans hk4
    have hk19 : s9 (183) = σ (183) := hc12.trans hk5
    have hk20 : s9 (184) = σ (184) := hc13.trans hk6
    refine ra_load rfl rfl rfl rfl ?_
    refine ra_load rfl rfl rfl rfl ?_
    refine ra_cV (s4_246 hx1 (by first | assumption | rfl | omega)) rfl (ct_246 rfl lk_8_189 (Or.inl rfl) sh_179 (Nat.le_of_ble_eq_true rfl)) (fun s21 hs21 => ?_)
    obtain ⟨hf22, hc23, hc24, hc25, he26, he27, he28⟩ := hs21
    have hF29 := Fr_tr (lo := 179) (hi := 188) hF17 hf22 (by omega)
    have hk30 : s21 (180) = σ (180) := hc23.trans hk18
    have hk31 : s21 (183) = σ (183) := hc24.trans hk19
    have hk32 : s21 (184) = σ (184) := hc25.trans hk20
    refine ra_load rfl rfl rfl rfl ?_
    refine ra_load rfl rfl rfl rfl ?_
    refine ra_cV (s4_246 hx2 (by first | assumption | rfl | omega)) rfl (ct_246 rfl lk_8_189 (Or.inl rfl) sh_179 (Nat.le_of_ble_eq_true rfl)) (fun s33 hs33 => ?_)
    obtain ⟨hf34, hc35, hc36, hc37, he38, he39, he40⟩ := hs33
    have hF41 := Fr_tr (lo := 179) (hi := 188) hF29 hf34 (by omega)
    have hk42 : s33 (180) = σ (180) := hc35.trans hk30
    have hk43 : s33 (183) = σ (183) := hc36.trans hk31
    have hk44 : s33 (184) = σ (184) := hc37.trans hk32
    refine ra_load rfl rfl rfl rfl ?_
    refine ra_load rfl rfl rfl rfl ?_
    refine ra_cV (s4_246 hx3 (by first | assumption | rfl | omega)) rfl (ct_246 rfl lk_8_189 (Or.inl rfl) sh_179 (Nat.le_of_ble_eq_true rfl)) (fun s45 hs45 => ?_)
    obtain ⟨hf46, hc47, hc48, hc49, he50, he51, he52⟩ := hs45
    have hF53 := Fr_tr (lo := 179) (hi := 188) hF41 hf46 (by omega)
    have hk54 : s45 (180) = σ (180) := hc47.trans hk42
    have hk55 : s45 (183) = σ (183) := hc48.trans hk43
    have hk56 : s45 (184) = σ (184) := hc49.trans hk44
    refine ra_load rfl rfl rfl rfl ?_
    refine ra_load rfl rfl rfl rfl ?_
    refine ra_cV (s4_246 hx4 (by first | assumption | rfl | omega)) rfl (ct_246 rfl lk_8_189 (Or.inl rfl) sh_179 (Nat.le_of_ble_eq_true rfl)) (fun s57 hs57 => ?_)
    obtain ⟨hf58, hc59, hc60, hc61, he62, he63, he64⟩ := hs57
    have hF65 := Fr_tr (lo := 179) (hi := 188) hF53 hf58 (by omega)
    have hk66 : s57 (180) = σ (180) := hc59.trans hk54
    have hk67 : s57 (183) = σ (183) := hc60.trans hk55
    have hk68 : s57 (184) = σ (184) := hc61.trans hk56
    refine ra_load rfl rfl rfl rfl ?_
    refine ra_getI rfl lk_8_186 (Nat.zero_le _) sh_179 rfl ?_
    have hr69 : ra_in (ra_g s57 (179) 12) := (ra_in_g _ _ _)
    exact ra_ireturn rfl rfl ⟨⟨_, hr69, rfl⟩, ⟨hF65, hk66, hk67, hk68, (fun a h7 h12 => ((he62 a h12).trans ((he50 a h12).trans ((he38 a h12).trans ((he26 a h12).trans ((he14 a h12).trans (hp2o a h7))))))), (fun q => by omega), (fun q => by omega), fun _ i hi => x4ap_5 (g1 := ra_g s9 187) (g2 := ra_g s21 187) (g3 := ra_g s33 187) (g4 := ra_g s45 187) (g5 := ra_g s57 187) (fun i hi => by have q := he16 i (by omega); rw [show (ra_g s1 179 12).toNat = (ra_g σ 179 12).toNat by omega, show ra_g s1 187 = ra_g σ 187 from funext fun j => ra_gk (hs1 187 (by omega))] at q; exact q) (fun i hi => by have q := he28 i (by omega); rw [show (ra_g s9 179 12).toNat = ((ra_g σ 179 12).toNat + 4) by omega] at q; exact q) (fun i hi => by have q := he40 i (by omega); rw [show (ra_g s21 179 12).toNat = ((ra_g σ 179 12).toNat + 8) by omega] at q; exact q) (fun i hi => by have q := he52 i (by omega); rw [show (ra_g s33 179 12).toNat = ((ra_g σ 179 12).toNat + 12) by omega] at q; exact q) (fun i hi => by have q := he64 i (by omega); rw [show (ra_g s45 179 12).toNat = ((ra_g σ 179 12).toNat + 16) by omega] at q; exact q) i (by omega), fun q => by omega⟩⟩
  · refine ra_iconst rfl ?_
    exact ra_ireturn rfl rfl ⟨⟨_, (by first | omega | (unfold ra_in at *; omega)), rfl⟩, ⟨hF3, hk4, hk5, hk6, (fun a h7 h12 => (hp2o a h7)), (fun q => by omega), (fun q => by omega), fun q => by omega, fun _ => hs1 187 (by omega)⟩⟩
theorem s4_263 {n : Nat} {f : Nat → Int32} {d : Nat}  {σ : ra_V} (hw : WF σ) : ra_C (g_Gs n f) g_sh 0 (d + 1) 263 [.index (179)] σ (fun r9 s => r9 = .inl (some (ra_I (ra_g σ 179 13))) ∧ Fr (179) (187) σ s ∧ s (180) = σ (180) ∧ s (181) = σ (181) ∧ s (182) = σ (182) ∧ s (183) = σ (183) ∧ s (184) = σ (184) ∧ (∀ a, a ≠ 7 → a ≠ 10 → ra_g s 179 a = ra_g σ 179 a)) := by
  refine ra_enter (nn := 0) mt_263 rfl (Nat.le_of_ble_eq_true rfl) rfl (fun h => absurd h (by decide +kernel)) ?_
  have hw0 := WF_a hw
  unfold WFa at hw0
  refine ra_load rfl rfl rfl rfl ?_
  refine ra_iconst rfl ?_
  refine ra_putI rfl lk_8_51 (Nat.zero_le _) sh_179 rfl rfl ?_
  refine ra_newU (by first | omega | (unfold ra_in at *; omega)) (fun s1 hs1 hp2 hp2o => ?_)
  have hp2_13 := hp2o 13 (by decide)
  have hp2_14 := hp2o 14 (by decide)
  have hF3 := Fr_tr (lo := 179) (hi := 187) Fr_rf hs1 (by omega)
  have hk4 : s1 (180) = σ (180) := (hs1 (180) (by omega))
  have hk5 : s1 (181) = σ (181) := (hs1 (181) (by omega))
  have hk6 : s1 (182) = σ (182) := (hs1 (182) (by omega))
  have hk7 : s1 (183) = σ (183) := (hs1 (183) (by omega))
  have hk8 : s1 (184) = σ (184) := (hs1 (184) (by omega))
  have ho9 : ∀ a, a ≠ 7 → a ≠ 10 → ra_g s1 179 a = ra_g σ 179 a := fun a h7 h10 => ((fun a h7 h10 => hp2o a h7) a h7 h10).trans ((fun _ _ _ => rfl) a h7 h10)
  refine ra_load rfl rfl rfl rfl ?_
  refine ra_getI rfl lk_8_291 (Nat.zero_le _) sh_179 rfl ?_
  have hr10 : ra_in (ra_g s1 (179) 13) := (ra_in_g _ _ _)
  exact ra_ireturn rfl rfl ⟨(congrArg (fun z => Sum.inl (some (ra_I z))) (by omega)), ⟨hF3, hk4, hk5, hk6, hk7, hk8, ho9⟩⟩
theorem s4_264 {n : Nat} {f : Nat → Int32} {d : Nat}  {σ : ra_V} (hw : WF σ) : ra_C (g_Gs n f) g_sh 0 (d + 1) 264 [.index (179)] σ (fun r9 s => r9 = .inl (some (ra_I (ra_g σ 179 14))) ∧ Fr (179) (187) σ s ∧ s (180) = σ (180) ∧ s (181) = σ (181) ∧ s (182) = σ (182) ∧ s (183) = σ (183) ∧ s (184) = σ (184) ∧ (∀ a, a ≠ 7 → a ≠ 10 → ra_g s 179 a = ra_g σ 179 a)) := by
  refine ra_enter (nn := 0) mt_264 rfl (Nat.le_of_ble_eq_true rfl) rfl (fun h => absurd h (by decide +kernel)) ?_
  have hw0 := WF_a hw
  unfold WFa at hw0
  refine ra_load rfl rfl rfl rfl ?_
  refine ra_iconst rfl ?_
  refine ra_putI rfl lk_8_51 (Nat.zero_le _) sh_179 rfl rfl ?_
  refine ra_newU (by first | omega | (unfold ra_in at *; omega)) (fun s1 hs1 hp2 hp2o => ?_)
  have hp2_13 := hp2o 13 (by decide)
  have hp2_14 := hp2o 14 (by decide)
  have hF3 := Fr_tr (lo := 179) (hi := 187) Fr_rf hs1 (by omega)
  have hk4 : s1 (180) = σ (180) := (hs1 (180) (by omega))
  have hk5 : s1 (181) = σ (181) := (hs1 (181) (by omega))
  have hk6 : s1 (182) = σ (182) := (hs1 (182) (by omega))
  have hk7 : s1 (183) = σ (183) := (hs1 (183) (by omega))
  have hk8 : s1 (184) = σ (184) := (hs1 (184) (by omega))
  have ho9 : ∀ a, a ≠ 7 → a ≠ 10 → ra_g s1 179 a = ra_g σ 179 a := fun a h7 h10 => ((fun a h7 h10 => hp2o a h7) a h7 h10).trans ((fun _ _ _ => rfl) a h7 h10)
  refine ra_load rfl rfl rfl rfl ?_
  refine ra_getI rfl lk_8_34 (Nat.zero_le _) sh_179 rfl ?_
  have hr10 : ra_in (ra_g s1 (179) 14) := (ra_in_g _ _ _)
  exact ra_ireturn rfl rfl ⟨(congrArg (fun z => Sum.inl (some (ra_I z))) (by omega)), ⟨hF3, hk4, hk5, hk6, hk7, hk8, ho9⟩⟩
end
