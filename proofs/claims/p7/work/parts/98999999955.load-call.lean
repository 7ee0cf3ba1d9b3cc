/-! T5: the class's loadDisk (printed by wip/gen/c10.py) -/
section
variable {B : Nat → Int} {bn ps ta : Nat} {pk uv al : Int} {r : Nat → Int} {nh : Int} {R : Nat → ra_V}
theorem s9_64 {n : Nat} {f : Nat → Int32} {d : Nat}  {σ : ra_V} (hH : x5HQ nh R σ) : ra_C (g_Gs n f) g_sh 0 (d + 1) 64 [.index (40)] σ (fun r9 s => rV r9 ∧ Fr (40) (41) σ s ∧ CI s ∧ ∀ R2, x5HQ 0 R2 s) := by
  refine ra_enter (nn := 0) mt_64 rfl (Nat.le_of_ble_eq_true rfl) rfl (fun h => absurd h (by decide +kernel)) ?_
  refine ra_load rfl rfl rfl rfl ?_
  refine ra_iconst rfl ?_
  refine ra_putI rfl lk_2_26 (Nat.zero_le _) sh_40 rfl rfl ?_
  refine ra_newU (by first | omega | (unfold ra_in at *; omega)) (fun s1 hs1 hp2 hp2o => ?_)
  have hF3 := Fr_tr (lo := 40) (hi := 41) Fr_rf hs1 (by omega)
  exact ra_return rfl rfl ⟨rfl, ⟨hF3, (x5hq_0 (R2 := R) hH (hp2o 1 (by decide)) hp2).2.2.1, fun R2 => x5hq_0 hH (hp2o 1 (by decide)) hp2⟩⟩
theorem s9_116 {n : Nat} {f : Nat → Int32} {d : Nat}  {σ : ra_V} (hci : CI σ) (hB : x4TB σ B bn) (hH : x5HQ nh R σ) : ra_C (g_Gs n f) g_sh 0 (d + 10) 116 [.index (0)] σ (fun r9 s => r9 = .inl (some (ra_I (tx_ans (tx_text B bn)))) ∧ Fr (0) (179) σ s ∧ CI s ∧ ra_g s 175 1 = 0 ∧ ra_g s 175 2 = tx_err (tx_text B bn) ∧ ra_g s 175 3 = tx_off (tx_text B bn) ∧ (∀ c : Nat, 27 ≤ c → c < 40 → s c = σ c) ∧ (∀ r, tx_text B bn = .inr r → ∀ τ, SC (x5rT r) τ → x5W2 τ → x5CT τ s 1) ∧ (∀ r, tx_text B bn = .inr r → (∀ R2, x5HQ 0 R2 s) ∧ ra_g s 0 3 = 0) ∧ (∀ u, tx_text B bn = .inl u → ∀ c : Nat, (c < 14 ∨ (27 ≤ c ∧ c < 172)) → s c = σ c)) := by
  refine ra_enter (nn := 1) mt_116 rfl (Nat.le_of_ble_eq_true rfl) rfl (fun h => absurd h (by decide +kernel)) ?_
  have hB0 := hB
  obtain ⟨b1, b2, b3, b4⟩ := hB0
  refine ra_load rfl rfl rfl rfl ?_
  refine ra_getR rfl lk_7_39 (Nat.zero_le _) sh_0 rfl ?_
  refine ra_load rfl rfl rfl rfl ?_
  refine ra_getR rfl lk_7_16 (Nat.zero_le _) sh_0 rfl ?_
  refine ra_cQPs (s9_99 isD_14 rfl hB) rfl (ct_99 rfl lk_7_65 (Or.inl rfl) sh_175 (Nat.le_of_ble_eq_true rfl)) (fun z2 s1 hz2 hz2p hs1 => ?_)
  obtain ⟨hf3, hc4, hc5, he6, he7⟩ := hs1
  have hF8 := Fr_tr (lo := 0) (hi := 179) Fr_rf hf3 (by omega)
  have hci9 : CI s1 := (by have hz := hci; unfold CI at hz ⊢; rw [ra_gk hc4]; exact hz)
  refine ra_store (L' := [_, _]) rfl rfl rfl (Nat.le_of_ble_eq_true rfl) rfl ?_
  refine ra_load rfl rfl rfl rfl ?_
  refine ra_getR rfl lk_7_39 (Nat.zero_le _) sh_0 rfl ?_
  refine ra_iconst rfl ?_
  refine ra_putI rfl lk_7_61 (Nat.zero_le _) sh_175 rfl rfl ?_
  refine ra_newU (by first | omega | (unfold ra_in at *; omega)) (fun s10 hs10 hp11 hp11o => ?_)
  have hp11_2 := hp11o 2 (by decide)
  have hp11_3 := hp11o 3 (by decide)
  have hp11_4 := hp11o 4 (by decide)
  have hp11_5 := hp11o 5 (by decide)
  have hp11_6 := hp11o 6 (by decide)
  have hp11_7 := hp11o 7 (by decide)
  have hp11_8 := hp11o 8 (by decide)
  have hp11_9 := hp11o 9 (by decide)
  have hp11_10 := hp11o 10 (by decide)
  have hp11_11 := hp11o 11 (by decide)
  have hF12 := Fr_tr (lo := 0) (hi := 179) hF8 hs10 (by omega)
  have hci13 : CI s10 := CI_fr hci9 hs10 (by omega)
  have hx2 : ra_g s10 175 2 = tx_err (tx_text B bn) := (by omega : ra_g s10 175 2 = ra_g s1 175 2).trans (x5p6_2 hz2p)
  have hx3 : ra_g s10 175 3 = tx_off (tx_text B bn) := (by omega : ra_g s10 175 3 = ra_g s1 175 3).trans (x5p6_3 hz2p)
  refine ra_load rfl rfl rfl rfl ?_
  refine ra_ifne rfl rfl (ra_in01 hz2) (fun h14 => ?_) (fun h14 => ?_)
  · obtain ⟨-, r1, ht1, hA1⟩ := hz2p.resolve_right (fun q => by omega)
    refine ra_load rfl rfl rfl rfl ?_
    refine ra_getR rfl lk_7_10 (Nat.zero_le _) sh_0 rfl ?_
    refine ra_load rfl rfl rfl rfl ?_
    refine ra_getR rfl lk_7_16 (Nat.zero_le _) sh_0 rfl ?_
    refine ra_cV (s5_2 isD_1 isD_14 (by omega)) rfl (ct_2 rfl lk_7_69 (Or.inl rfl) (sh_D isD_1) (Nat.le_of_ble_eq_true rfl)) (fun s15 hs15 => ?_)
    obtain ⟨hf16, he17⟩ := hs15
    have hF18 := Fr_tr (lo := 0) (hi := 179) hF12 hf16 (by omega)
    have hci19 : CI s15 := CI_fr hci13 hf16 (by omega)
    have hk20 : s15 (175) = s10 (175) := (hf16 (175) (by omega))
    refine ra_load rfl rfl rfl rfl ?_
    refine ra_getR rfl lk_7_25 (Nat.zero_le _) sh_0 rfl ?_
    refine ra_cV (s9_64 (x5hq_k (fun c c1 c2 => ((hf16 c (by omega)).trans ((hs10 c (by omega)).trans (he7 c (by omega) (by omega))))) hH)) rfl (ct_64 rfl lk_7_73 (Or.inl rfl) sh_40 (Nat.le_of_ble_eq_true rfl)) (fun s21 hs21 => ?_)
    obtain ⟨hf22, he23, he24⟩ := hs21
    have hF25 := Fr_tr (lo := 0) (hi := 179) hF18 hf22 (by omega)
    have hci26 : CI s21 := he23
    have hk27 : s21 (175) = s10 (175) := (hf22 (175) (by omega)).trans hk20
    refine ra_load rfl rfl rfl rfl ?_
    refine ra_iconst rfl ?_
    refine ra_putB rfl lk_7_76 (Nat.zero_le _) sh_0 rfl rfl (Or.inl rfl) ?_
    refine ra_newU (ra_in01 (Or.inl rfl)) (fun s28 hs28 hp29 hp29o => ?_)
    have hF30 := Fr_tr (lo := 0) (hi := 179) hF25 hs28 (by omega)
    have hci31 : CI s28 := CI_fr hci26 hs28 (by omega)
    have hk32 : s28 (175) = s10 (175) := (hs28 (175) (by omega)).trans hk27
    refine ra_load rfl rfl rfl rfl ?_
    refine ra_getR rfl lk_7_46 (Nat.zero_le _) sh_0 rfl ?_
    refine ra_cV (sp_85 ) rfl (ct_85 rfl lk_7_80 (Or.inl rfl) sh_177 (Nat.le_of_ble_eq_true rfl)) (fun s33 hs33 => ?_)
    have hF34 := Fr_tr (lo := 0) (hi := 179) hF30 hs33 (by omega)
    have hci35 : CI s33 := CI_fr hci31 hs33 (by omega)
    have hk36 : s33 (175) = s10 (175) := (hs33 (175) (by omega)).trans hk32
    refine ra_load rfl rfl rfl rfl ?_
    refine ra_getR rfl lk_7_10 (Nat.zero_le _) sh_0 rfl ?_
    refine ra_cTp (s4_4 isD_1 (x5sz6_cp hA1 (fun p hp => ra_gk ((hs33 (1 + 5 + p) (by omega)).trans ((hs28 (1 + 5 + p) (by omega)).trans (hf22 (1 + 5 + p) (by omega))))) (fun p hp => (he17.2.1 p hp).1 2 (by omega) (by omega) (by omega)) (fun p hp => ra_gk (hs10 (14 + 5 + p) (by omega))))) rfl (ct_4 rfl lk_7_83 (Or.inl rfl) (sh_D isD_1) (Nat.le_of_ble_eq_true rfl)) ?_
    have hr38 : ra_in ((r1 5)) := (x4SZ_in (x5sz6_cp hA1 (fun p hp => ra_gk ((hs33 (1 + 5 + p) (by omega)).trans ((hs28 (1 + 5 + p) (by omega)).trans (hf22 (1 + 5 + p) (by omega))))) (fun p hp => (he17.2.1 p hp).1 2 (by omega) (by omega) (by omega)) (fun p hp => ra_gk (hs10 (14 + 5 + p) (by omega)))))
    exact ra_ireturn rfl rfl ⟨(congrArg (fun z => Sum.inl (some (ra_I z))) (x4po_y ht1)), ⟨hF34, hci35, ((ra_gk ((hs33 (175) (by omega)).trans ((hs28 (175) (by omega)).trans ((hf22 (175) (by omega)).trans (hf16 (175) (by omega)))))).trans (by omega)), ((ra_gk ((hs33 (175) (by omega)).trans ((hs28 (175) (by omega)).trans ((hf22 (175) (by omega)).trans (hf16 (175) (by omega)))))).trans hx2), ((ra_gk ((hs33 (175) (by omega)).trans ((hs28 (175) (by omega)).trans ((hf22 (175) (by omega)).trans (hf16 (175) (by omega)))))).trans hx3), (fun c c1 c2 => ((hs33 c (by omega)).trans ((hs28 c (by omega)).trans ((hf22 c (by omega)).trans ((hf16 c (by omega)).trans ((hs10 c (by omega)).trans (he7 c (by omega) (by omega)))))))), (fun r hr τ hT hW => by obtain rfl : r1 = r := (by rw [ht1] at hr; cases hr; rfl); exact x5A6_cp hA1 (fun c c1 c2 => (hs10 c (by omega))) he17 (fun c c1 c2 => ((hs33 c (by omega)).trans ((hs28 c (by omega)).trans (hf22 c (by omega))))) hT hW), (fun r _ => ⟨fun R2 => x5hq_k (fun c c1 c2 => ((hs33 c (by omega)).trans (hs28 c (by omega)))) (he24 R2), ((ra_gk (hs33 (0) (by omega))).trans hp29)⟩), (fun u hu => by rw [ht1] at hu; cases hu)⟩⟩
  · refine ra_iconst rfl ?_
    exact ra_ireturn rfl rfl ⟨(congrArg (fun z => Sum.inl (some (ra_I z))) (x5p6_n hz2p (by omega))), ⟨hF12, hci13, (by omega), hx2, hx3, (fun c c1 c2 => ((hs10 c (by omega)).trans (he7 c (by omega) (by omega)))), (fun r hr => absurd hr (x5p6_nr hz2p (by omega))), (fun r hr => absurd hr (x5p6_nr hz2p (by omega))), (fun u hu c c1 => ((hs10 c (by omega)).trans (c1.elim (fun c2 => hf3 c (by omega)) (fun c2 => he7 c (by omega) (by omega)))))⟩⟩
end
