section
/-! T4: what the class's methods that read a text do (printed by wip/gen/c4.py) -/
section
variable {B : Nat → Int} {bn ps ta : Nat} {pk uv al : Int} {r : Nat → Int}
theorem s4_107 {n : Nat} {f : Nat → Int32} {d : Nat} {x0 : Int} {σ : ra_V} (hx0 : ra_in x0) : ra_C (g_Gs n f) g_sh 0 (d + 1) 107 [.index (175), ra_I x0] σ (fun r9 s => (∃ z : Int, (z = 0 ∨ z = 1) ∧ (z = 0) ∧ r9 = .inl (some (ra_I z))) ∧ Fr (175) (177) σ s ∧ s (176) = σ (176) ∧ (ra_g s 175 1 = ra_g σ 175 1 ∧ ra_g s 175 2 = x0 ∧ ra_g s 175 3 = ra_g σ 175 6 ∧ ra_g s 175 8 = ra_g σ 175 8 ∧ ra_g s 175 9 = ra_g σ 175 9 ∧ ra_g s 175 10 = ra_g σ 175 10 ∧ ra_g s 175 11 = ra_g σ 175 11)) := by
  refine ra_enter (nn := 0) mt_107 rfl (Nat.le_of_ble_eq_true rfl) rfl (fun h => absurd h (by decide +kernel)) ?_
  refine ra_load rfl rfl rfl rfl ?_
  refine ra_load rfl rfl rfl rfl ?_
  refine ra_putI rfl lk_6_15 (Nat.zero_le _) sh_175 rfl rfl ?_
  refine ra_newU hx0 (fun s1 hs1 hp2 hp2o => ?_)
  have hp2_1 := hp2o 1 (by decide)
  have hp2_3 := hp2o 3 (by decide)
  have hp2_4 := hp2o 4 (by decide)
  have hp2_5 := hp2o 5 (by decide)
  have hp2_6 := hp2o 6 (by decide)
  have hp2_7 := hp2o 7 (by decide)
  have hp2_8 := hp2o 8 (by decide)
  have hp2_9 := hp2o 9 (by decide)
  have hp2_10 := hp2o 10 (by decide)
  have hp2_11 := hp2o 11 (by decide)
  have hF3 := Fr_tr (lo := 175) (hi := 177) Fr_rf hs1 (by omega)
  have hk4 : s1 (176) = σ (176) := (hs1 (176) (by omega))
  refine ra_load rfl rfl rfl rfl ?_
  refine ra_load rfl rfl rfl rfl ?_
  refine ra_getI rfl lk_6_137 (Nat.zero_le _) sh_175 rfl ?_
  have hr5 : ra_in (ra_g s1 (175) 6) := (ra_in_g _ _ _)
  refine ra_putI rfl lk_6_19 (Nat.zero_le _) sh_175 rfl rfl ?_
  refine ra_newU hr5 (fun s6 hs6 hp7 hp7o => ?_)
  have hp7_1 := hp7o 1 (by decide)
  have hp7_2 := hp7o 2 (by decide)
  have hp7_4 := hp7o 4 (by decide)
  have hp7_5 := hp7o 5 (by decide)
  have hp7_6 := hp7o 6 (by decide)
  have hp7_7 := hp7o 7 (by decide)
  have hp7_8 := hp7o 8 (by decide)
  have hp7_9 := hp7o 9 (by decide)
  have hp7_10 := hp7o 10 (by decide)
  have hp7_11 := hp7o 11 (by decide)
  have hF8 := Fr_tr (lo := 175) (hi := 177) hF3 hs6 (by omega)
  have hk9 : s6 (176) = σ (176) := (hs6 (176) (by omega)).trans hk4
  refine ra_iconst rfl ?_
  exact ra_ireturn rfl (ra_okB (Or.inl rfl)) ⟨⟨_, (Or.inl rfl), rfl, rfl⟩, ⟨hF8, hk9, by omega⟩⟩
theorem s4_106 {n : Nat} {f : Nat → Int32} {d : Nat} {x0 : Int} {x1 : Int} {σ : ra_V} (hx0 : ra_in x0) (hx1 : ra_in x1) (hB : x4TB σ B bn) (hps : ra_g σ 175 4 = (ps : Nat)) (hpl : ps ≤ bn) : ra_C (g_Gs n f) g_sh 0 (d + 3) 106 [.index (175), ra_I x0, ra_I x1] σ (fun r9 s => (∃ z : Int, (z = 0 ∨ z = 1) ∧ (x4NUM B bn σ s z ps x0 x1) ∧ r9 = .inl (some (ra_I z))) ∧ Fr (175) (177) σ s ∧ s (176) = σ (176) ∧ (ra_g s 175 1 = ra_g σ 175 1 ∧ ra_g s 175 8 = ra_g σ 175 8 ∧ ra_g s 175 9 = ra_g σ 175 9 ∧ ra_g s 175 10 = ra_g σ 175 10 ∧ ra_g s 175 11 = ra_g σ 175 11)) := by
  refine ra_enter (nn := 0) mt_106 rfl (Nat.le_of_ble_eq_true rfl) rfl (fun h => absurd h (by decide +kernel)) ?_
  refine ra_load rfl rfl rfl rfl ?_
  refine ra_cV (s4_111 (by first | assumption | rfl | omega) (by first | assumption | rfl | omega) (by first | assumption | rfl | omega)) rfl (ct_111 rfl lk_6_41 (Or.inl rfl) sh_175 (Nat.le_of_ble_eq_true rfl)) (fun s1 hs1 => ?_)
  obtain ⟨hf2, hc3, he4, he5⟩ := hs1
  have hF6 := Fr_tr (lo := 175) (hi := 177) Fr_rf hf2 (by omega)
  have hk7 : s1 (176) = σ (176) := hc3
  refine ra_load rfl rfl rfl rfl ?_
  refine ra_getI rfl lk_6_71 (Nat.zero_le _) sh_175 rfl ?_
  have hr8 : ra_in (ra_g s1 (175) 5) := (ra_in_g _ _ _)
  refine ra_iconst rfl ?_
  refine ra_iceq rfl rfl hr8 (by first | omega | (unfold ra_in at *; omega)) (fun h9 => ?_) (fun h9 => ?_)
  · refine ra_load rfl rfl rfl rfl ?_
    refine ra_getI rfl lk_6_58 (Nat.zero_le _) sh_175 rfl ?_
    have hr10 : ra_in (ra_g s1 (175) 7) := (ra_in_g _ _ _)
    refine ra_load rfl rfl rfl rfl ?_
    refine ra_iclt rfl rfl hr10 hx0 (fun h11 => ?_) (fun h11 => ?_)
    · refine ra_load rfl rfl rfl rfl ?_
      refine ra_iconst rfl ?_
      refine ra_cQP (s4_107 (by first | omega | (unfold ra_in at *; omega))) rfl (ct_107 rfl lk_6_50 (Or.inl rfl) sh_175 (Nat.le_of_ble_eq_true rfl)) (fun z13 s12 hz13 hz13p hs12 => ?_)
      obtain ⟨hf14, hc15, he16⟩ := hs12
      have hF17 := Fr_tr (lo := 175) (hi := 177) hF6 hf14 (by omega)
      have hk18 : s12 (176) = σ (176) := hc15.trans hk7
      refine ra_ifeq rfl rfl (ra_in01 hz13) (fun h19 => ?_) (fun h19 => ?_)
      · refine ra_iconst rfl ?_
        exact ra_ireturn rfl (ra_okB (Or.inl rfl)) ⟨⟨_, (Or.inl rfl), (by first | (exfalso; omega) | exact x4num_1 he5 (by omega) (by omega) (by omega) | exact x4num_2 he5 (by omega) (by omega) (by omega) (by omega)), rfl⟩, ⟨hF17, hk18, by omega⟩⟩
      · refine ra_iconst rfl ?_
        refine ra_goto rfl rfl ?_
        exact ra_ireturn rfl (ra_okB (Or.inr rfl)) ⟨⟨_, (Or.inr rfl), (by first | (exfalso; omega) | exact x4num_1 he5 (by omega) (by omega) (by omega) | exact x4num_2 he5 (by omega) (by omega) (by omega) (by omega)), rfl⟩, ⟨hF17, hk18, by omega⟩⟩
    · refine ra_load rfl rfl rfl rfl ?_
      refine ra_getI rfl lk_6_58 (Nat.zero_le _) sh_175 rfl ?_
      have hr20 : ra_in (ra_g s1 (175) 7) := (ra_in_g _ _ _)
      refine ra_load rfl rfl rfl rfl ?_
      refine ra_icle rfl rfl hr20 hx1 (fun h21 => ?_) (fun h21 => ?_)
      · refine ra_iconst rfl ?_
        refine ra_goto rfl rfl ?_
        exact ra_ireturn rfl (ra_okB (Or.inr rfl)) ⟨⟨_, (Or.inr rfl), (x4num_y he5 (by omega) (by omega) rfl (by omega)), rfl⟩, ⟨hF6, hk7, by omega⟩⟩
      · refine ra_load rfl rfl rfl rfl ?_
        refine ra_iconst rfl ?_
        refine ra_cQP (s4_107 (by first | omega | (unfold ra_in at *; omega))) rfl (ct_107 rfl lk_6_50 (Or.inl rfl) sh_175 (Nat.le_of_ble_eq_true rfl)) (fun z23 s22 hz23 hz23p hs22 => ?_)
        obtain ⟨hf24, hc25, he26⟩ := hs22
        have hF27 := Fr_tr (lo := 175) (hi := 177) hF6 hf24 (by omega)
        have hk28 : s22 (176) = σ (176) := hc25.trans hk7
        refine ra_ifeq rfl rfl (ra_in01 hz23) (fun h29 => ?_) (fun h29 => ?_)
        · refine ra_iconst rfl ?_
          exact ra_ireturn rfl (ra_okB (Or.inl rfl)) ⟨⟨_, (Or.inl rfl), (by first | (exfalso; omega) | exact x4num_1 he5 (by omega) (by omega) (by omega) | exact x4num_2 he5 (by omega) (by omega) (by omega) (by omega)), rfl⟩, ⟨hF27, hk28, by omega⟩⟩
        · refine ra_iconst rfl ?_
          refine ra_goto rfl rfl ?_
          exact ra_ireturn rfl (ra_okB (Or.inr rfl)) ⟨⟨_, (Or.inr rfl), (by first | (exfalso; omega) | exact x4num_1 he5 (by omega) (by omega) (by omega) | exact x4num_2 he5 (by omega) (by omega) (by omega) (by omega)), rfl⟩, ⟨hF27, hk28, by omega⟩⟩
  · refine ra_load rfl rfl rfl rfl ?_
    refine ra_iconst rfl ?_
    refine ra_cQP (s4_107 (by first | omega | (unfold ra_in at *; omega))) rfl (ct_107 rfl lk_6_50 (Or.inl rfl) sh_175 (Nat.le_of_ble_eq_true rfl)) (fun z31 s30 hz31 hz31p hs30 => ?_)
    obtain ⟨hf32, hc33, he34⟩ := hs30
    have hF35 := Fr_tr (lo := 175) (hi := 177) hF6 hf32 (by omega)
    have hk36 : s30 (176) = σ (176) := hc33.trans hk7
    exact ra_ireturn rfl (ra_okB hz31) ⟨⟨_, hz31, (by first | (exfalso; omega) | exact x4num_1 he5 (by omega) (by omega) (by omega) | exact x4num_2 he5 (by omega) (by omega) (by omega) (by omega)), rfl⟩, ⟨hF35, hk36, by omega⟩⟩
theorem s4_105 {n : Nat} {f : Nat → Int32} {d : Nat}  {σ : ra_V} (hB : x4TB σ B bn) (hps : ra_g σ 175 4 = (ps : Nat)) (hpl : ps ≤ bn) : ra_C (g_Gs n f) g_sh 0 (d + 3) 105 [.index (175)] σ (fun r9 s => (∃ z : Int, (z = 0 ∨ z = 1) ∧ (x4SEM B bn σ s z ps) ∧ r9 = .inl (some (ra_I z))) ∧ Fr (175) (177) σ s ∧ s (176) = σ (176) ∧ (ra_g s 175 1 = ra_g σ 175 1 ∧ ra_g s 175 8 = ra_g σ 175 8 ∧ ra_g s 175 9 = ra_g σ 175 9 ∧ ra_g s 175 10 = ra_g σ 175 10 ∧ ra_g s 175 11 = ra_g σ 175 11)) := by
  refine ra_enter (nn := 0) mt_105 rfl (Nat.le_of_ble_eq_true rfl) rfl (fun h => absurd h (by decide +kernel)) ?_
  refine ra_load rfl rfl rfl rfl ?_
  refine ra_cV (s4_111 (by first | assumption | rfl | omega) (by first | assumption | rfl | omega) (by first | assumption | rfl | omega)) rfl (ct_111 rfl lk_6_41 (Or.inl rfl) sh_175 (Nat.le_of_ble_eq_true rfl)) (fun s1 hs1 => ?_)
  obtain ⟨hf2, hc3, he4, he5⟩ := hs1
  have hF6 := Fr_tr (lo := 175) (hi := 177) Fr_rf hf2 (by omega)
  have hk7 : s1 (176) = σ (176) := hc3
  refine ra_load rfl rfl rfl rfl ?_
  refine ra_getI rfl lk_6_71 (Nat.zero_le _) sh_175 rfl ?_
  have hr8 : ra_in (ra_g s1 (175) 5) := (ra_in_g _ _ _)
  refine ra_iconst rfl ?_
  refine ra_iceq rfl rfl hr8 (by first | omega | (unfold ra_in at *; omega)) (fun h9 => ?_) (fun h9 => ?_)
  · refine ra_iconst rfl ?_
    refine ra_goto rfl rfl ?_
    exact ra_ireturn rfl (ra_okB (Or.inr rfl)) ⟨⟨_, (Or.inr rfl), (x4sem_y he5 (by omega) rfl (by omega)), rfl⟩, ⟨hF6, hk7, by omega⟩⟩
  · refine ra_load rfl rfl rfl rfl ?_
    refine ra_iconst rfl ?_
    refine ra_cQP (s4_107 (by first | omega | (unfold ra_in at *; omega))) rfl (ct_107 rfl lk_6_50 (Or.inl rfl) sh_175 (Nat.le_of_ble_eq_true rfl)) (fun z11 s10 hz11 hz11p hs10 => ?_)
    obtain ⟨hf12, hc13, he14⟩ := hs10
    have hF15 := Fr_tr (lo := 175) (hi := 177) hF6 hf12 (by omega)
    have hk16 : s10 (176) = σ (176) := hc13.trans hk7
    refine ra_ifeq rfl rfl (ra_in01 hz11) (fun h17 => ?_) (fun h17 => ?_)
    · refine ra_iconst rfl ?_
      exact ra_ireturn rfl (ra_okB (Or.inl rfl)) ⟨⟨_, (Or.inl rfl), (by first | (exfalso; omega) | exact x4sem_n he5 (by omega) (by omega) (by omega)), rfl⟩, ⟨hF15, hk16, by omega⟩⟩
    · refine ra_iconst rfl ?_
      refine ra_goto rfl rfl ?_
      exact ra_ireturn rfl (ra_okB (Or.inr rfl)) ⟨⟨_, (Or.inr rfl), (by first | (exfalso; omega) | exact x4sem_n he5 (by omega) (by omega) (by omega)), rfl⟩, ⟨hF15, hk16, by omega⟩⟩
theorem l4_112_28 {n : Nat} {f : Nat → Int32} {d : Nat} {q0 : Nat} {tx0 : String} {u0 w0 : Nat} {σ : ra_V} (hq0 : ri_cp (g_Gs n f) g_m_X6_isWord q0 = some (9, u0, w0, tx0)) (hl0 : tx0.toList.length ≤ 100) (hB : x4TB σ B bn) (hN : x4NXC B bn σ ta) : ∀ (nn : Nat) (v2 : Int) (hv2_0 : 0 ≤ v2) (hv2_1 : ra_in v2) (hv2_2 : ∀ j : Nat, (j : Int) < v2 → B (ta + j) = ((tx0.toList.getD j 'a').toNat : Int)) (hk : tx_k B bn ta = 1 ∧ tx_e B bn ta = ta + tx0.toList.length) (hm : ((((tx0.toList.length : Nat) : Int) - v2 : Int)).toNat < nn), ra_P (g_Gs n f) g_sh 0 (d + 5) g_m_X6_isWord 28 [some (.index (175)), some (.string (ri_own g_m_X6_isWord) q0), some (ra_I v2)] [] σ (fun r9 s => (∃ z : Int, (z = 0 ∨ z = 1) ∧ (z = 1 ↔ tx_isw B bn ta tx0.toList = true) ∧ r9 = .inl (some (ra_I z))) ∧ s = σ) := by
  intro nn
  induction nn with
  | zero => intro v2 hv2_0 hv2_1 hv2_2 hk hm; exact absurd hm (Nat.not_lt_zero _)
  | succ nn ih =>
    intro v2 hv2_0 hv2_1 hv2_2 hk hm
    have hB0 := hB
    obtain ⟨b1, b2, b3, b4⟩ := hB0
    have hN0 := hN
    obtain ⟨n1, n2, n3, n4, n5, n6, n7, n8, n9⟩ := hN0
    refine ra_load rfl rfl rfl rfl ?_
    refine ra_load rfl rfl rfl rfl ?_
    refine ra_slen_ rfl lk_6_150 hq0 (Nat.le_of_ble_eq_true rfl) (by decide +kernel) ?_
    refine ra_icge rfl rfl (by first | omega | (unfold ra_in at *; omega)) (by first | omega | (unfold ra_in at *; omega)) (fun h6 => ?_) (fun h6 => ?_)
    · refine ra_iconst rfl ?_
      exact ra_ireturn rfl (ra_okB (Or.inr rfl)) ⟨⟨_, (Or.inr rfl), (iff_of_true rfl (x4isw_iff.mpr ⟨hk.1, by omega, fun j hj => hv2_2 j (by omega)⟩)), rfl⟩, rfl⟩
    · refine ra_load rfl rfl rfl rfl ?_
      refine ra_load rfl rfl rfl rfl ?_
      refine ra_getI rfl lk_6_137 (Nat.zero_le _) sh_175 rfl ?_
      have hr7 : ra_in (ra_g σ (175) 6) := (ra_in_g _ _ _)
      refine ra_load rfl rfl rfl rfl ?_
      refine ra_iadd rfl ?_
      refine ra_cTp (s4_108 (by first | omega | (unfold ra_in at *; omega)) (by first | assumption | rfl | omega) (by first | assumption | rfl | omega)) rfl (ct_108 rfl lk_6_140 (Or.inl rfl) sh_175 (Nat.le_of_ble_eq_true rfl)) ?_
      have hr9 : ra_in (B ((ra_g σ (175) 6) + v2).toNat) := (x4TB_in (by first | assumption | rfl | omega))
      have eb : (ra_g σ 175 6 + v2).toNat = ta + v2.toNat := by omega
      refine ra_load rfl rfl rfl rfl ?_
      refine ra_load rfl rfl rfl rfl ?_
      obtain ⟨ch10, hch10⟩ : ∃ c, tx0.toList[(v2).toNat]? = some c := ⟨_, List.getElem?_eq_getElem (by first | omega | (unfold ra_in at *; omega))⟩
      refine ra_schar rfl lk_6_154 hq0 (Nat.le_of_ble_eq_true rfl) (by decide +kernel) (by first | omega | (unfold ra_in at *; omega)) (by first | omega | (unfold ra_in at *; omega)) hch10 ?_
      refine ra_iceq rfl rfl hr9 (x4ch_in ch10) (fun h11 => ?_) (fun h11 => ?_)
      · refine ra_iinc (L' := [_, _, _]) rfl rfl (Nat.le_of_ble_eq_true rfl) rfl ?_
        refine ra_goto rfl rfl ?_
        exact ra_weak (by repeat' constructor) (ih (v2 + 1) (by first | omega | (unfold ra_in at *; omega)) (by first | omega | (unfold ra_in at *; omega)) (x4isw_s hv2_0 hv2_2 hch10 (by rw [← eb]; omega)) hk (by first | omega | (unfold ra_in at *; omega)))
      · refine ra_iconst rfl ?_
        exact ra_ireturn rfl (ra_okB (Or.inl rfl)) ⟨⟨_, (Or.inl rfl), (iff_of_false (by decide) (x4isw_n hch10 (by rw [← eb]; omega))), rfl⟩, rfl⟩
theorem s4_112 {n : Nat} {f : Nat → Int32} {d : Nat} {q0 : Nat} {tx0 : String} {u0 w0 : Nat} {σ : ra_V} (hq0 : ri_cp (g_Gs n f) g_m_X6_isWord q0 = some (9, u0, w0, tx0)) (hl0 : tx0.toList.length ≤ 100) (hB : x4TB σ B bn) (hN : x4NXC B bn σ ta) : ra_C (g_Gs n f) g_sh 0 (d + 6) 112 [.index (175), .string (ri_own g_m_X6_isWord) q0] σ (fun r9 s => (∃ z : Int, (z = 0 ∨ z = 1) ∧ (z = 1 ↔ tx_isw B bn ta tx0.toList = true) ∧ r9 = .inl (some (ra_I z))) ∧ s = σ) := by
  refine ra_enter (nn := 1) mt_112 rfl (Nat.le_of_ble_eq_true rfl) rfl (fun _ => by omega) ?_
  have hB0 := hB
  obtain ⟨b1, b2, b3, b4⟩ := hB0
  have hN0 := hN
  obtain ⟨n1, n2, n3, n4, n5, n6, n7, n8, n9⟩ := hN0
  refine ra_load rfl rfl rfl rfl ?_
  refine ra_getI rfl lk_6_71 (Nat.zero_le _) sh_175 rfl ?_
  have hr1 : ra_in (ra_g σ (175) 5) := (ra_in_g _ _ _)
  refine ra_iconst rfl ?_
  refine ra_icne rfl rfl hr1 (by first | omega | (unfold ra_in at *; omega)) (fun h2 => ?_) (fun h2 => ?_)
  · refine ra_iconst rfl ?_
    exact ra_ireturn rfl (ra_okB (Or.inl rfl)) ⟨⟨_, (Or.inl rfl), (iff_of_false (by decide) (fun q => by have q1 := x4isw_iff.mp q; have q2 := q1.1; have q3 := q1.2.1; omega)), rfl⟩, rfl⟩
  · refine ra_load rfl rfl rfl rfl ?_
    refine ra_getI rfl lk_6_25 (Nat.zero_le _) sh_175 rfl ?_
    have hr3 : ra_in (ra_g σ (175) 4) := (ra_in_g _ _ _)
    refine ra_load rfl rfl rfl rfl ?_
    refine ra_getI rfl lk_6_137 (Nat.zero_le _) sh_175 rfl ?_
    have hr4 : ra_in (ra_g σ (175) 6) := (ra_in_g _ _ _)
    refine ra_isub rfl ?_
    refine ra_load rfl rfl rfl rfl ?_
    refine ra_slen_ rfl lk_6_150 hq0 (Nat.le_of_ble_eq_true rfl) (by decide +kernel) ?_
    refine ra_iceq rfl rfl (by first | omega | (unfold ra_in at *; omega)) (by first | omega | (unfold ra_in at *; omega)) (fun h5 => ?_) (fun h5 => ?_)
    · refine ra_iconst rfl ?_
      refine ra_store (L' := [_, _, _]) rfl rfl rfl (Nat.le_of_ble_eq_true rfl) rfl ?_
      exact ra_weak (by repeat' constructor) (l4_112_28 hq0 hl0 hB hN _ (0) (by first | omega | (unfold ra_in at *; omega)) (by first | omega | (unfold ra_in at *; omega)) (fun j hj => by omega) (by omega) (Nat.lt_succ_self _))
    · refine ra_iconst rfl ?_
      exact ra_ireturn rfl (ra_okB (Or.inl rfl)) ⟨⟨_, (Or.inl rfl), (iff_of_false (by decide) (fun q => by have q1 := x4isw_iff.mp q; have q2 := q1.1; have q3 := q1.2.1; omega)), rfl⟩, rfl⟩
end
end
section
/-! T4: the class's disk that a text is read into -/
section
section
variable {σ s t : ra_V} {B : Nat → Int} {bn n a i k D p e : Nat} {pk x y v z : Int} {r : Nat → Int}
/-- the partitions that stand are the first ones -/
def x4SZ (σ : ra_V) (D : Nat) (pk : Int) : Prop := (0 ≤ pk ∧ pk ≤ 8) ∧ ∀ p : Nat, p < 8 → (0 < ra_g σ (D + 5 + p) 2 ↔ (p : Int) < pk)
def x4BD (σ : ra_V) (D : Nat) : Prop := ∀ p : Nat, p < 8 → 0 < ra_g σ (D + 5 + p) 2 → 0 ≤ ra_g σ (D + 5 + p) 1 ∧ ra_g σ (D + 5 + p) 1 + ra_g σ (D + 5 + p) 2 ≤ 600
abbrev x4MT (σ : ra_V) (D : Nat) (x y : Int) (p : Nat) : Prop := 0 < ra_g σ (D + 5 + p) 2 ∧ ra_g σ (D + 5 + p) 1 < x + y ∧ x < ra_g σ (D + 5 + p) 1 + ra_g σ (D + 5 + p) 2
theorem x4or_z {m y : Int} (h : ra_op .ior m y = 0) (hy : ra_in y) : y = 0 := by
  have h1 : (Int32.ofInt m ||| Int32.ofInt y).toInt = (0 : Int32).toInt := h
  have h2 : Int32.ofInt m ||| Int32.ofInt y = 0 := Int32.toInt_inj.mp h1
  have h3 : (Int32.ofInt m ||| Int32.ofInt y).toBitVec = 0#32 := by rw [h2]; rfl
  rw [Int32.toBitVec_or] at h3
  have h4 : (Int32.ofInt y).toBitVec = 0#32 := (BitVec.or_eq_zero_iff.mp h3).2
  have h5 : Int32.ofInt y = 0 := Int32.toBitVec_inj.mp h4
  have h6 : (Int32.ofInt y).toInt = (0 : Int32).toInt := by rw [h5]
  rw [ra_ofI hy] at h6
  exact h6
theorem x4sh_nz : ∀ j : Nat, j < 8 → ra_op .ishl 1 (j : Int) ≠ 0 := by decide +kernel
theorem x4or_ne {m : Int} {j : Nat} (hj : j < 8) : ra_op .ior m (ra_op .ishl 1 (j : Int)) ≠ 0 := fun h => x4sh_nz j hj (x4or_z h (ra_in_op _ _ _))
/-- what a text has made so far: the class's disk D, the numbers of the text -/
def x4AR (r : Nat → Int) (σ : ra_V) (D : Nat) : Prop :=
  (ra_g σ D 4 = r 0 ∧ ra_g σ D 5 = r 1 ∧ ra_g σ D 6 = r 2 ∧ ra_g σ D 7 = r 3 ∧ ra_g σ D 8 = r 4) ∧
  ((64 ≤ r 0 ∧ r 0 ≤ 600) ∧ (0 ≤ r 1 ∧ r 1 ≤ 31) ∧ (0 ≤ r 2 ∧ r 2 ≤ 31) ∧ (1 ≤ r 3 ∧ r 3 ≤ 32) ∧ (0 ≤ r 5 ∧ r 5 ≤ 8)) ∧
  (ra_g σ 175 8 = r 101 ∧ ra_g σ 175 9 = r 102 ∧ ra_g σ 175 10 = r 103 ∧ ra_g σ 175 11 = r 104) ∧
  ((r 101 = 0 ∨ r 101 = 1) ∧ (r 102 = 0 ∨ r 102 = 1) ∧ (r 103 = 0 ∨ r 103 = 1) ∧ (r 104 = 0 ∨ r 104 = 1)) ∧
  (ra_g σ 175 2 = 0 ∧ ra_g σ 175 3 = -1) ∧ x4SZ σ D (r 5) ∧
  ∀ p : Nat, p < 8 → (p : Int) < r 5 → ra_g σ (D + 5 + p) 1 = r (25 + 8 * p) ∧ ra_g σ (D + 5 + p) 2 = r (26 + 8 * p) ∧ ra_g σ (D + 5 + p) 5 = r (29 + 8 * p) ∧ (r (29 + 8 * p) = 0 ∨ r (29 + 8 * p) = 1) ∧ 0 ≤ r (25 + 8 * p) ∧ r (25 + 8 * p) + r (26 + 8 * p) ≤ 600
theorem x4SZ_k (h : ∀ p : Nat, p < 8 → ra_g s (D + 5 + p) 2 = ra_g σ (D + 5 + p) 2) (q : x4SZ σ D pk) : x4SZ s D pk := ⟨q.1, fun p hp => by rw [h p hp]; exact q.2 p hp⟩
theorem x4SZ_in (q : x4SZ σ D pk) : ra_in pk := by have := q.1; unfold ra_in; omega
theorem x4AR_bd (h : x4AR r σ D) : x4BD σ D := fun p hp h0 => by
  obtain ⟨-, -, -, -, -, hz, hp2⟩ := h
  obtain ⟨a1, a2, a3, a4, a5, a6⟩ := hp2 p hp ((hz.2 p hp).mp h0)
  rw [a1, a2]
  exact ⟨a5, a6⟩
theorem x4AR_k (h1 : ∀ j : Nat, j < 13 → s (D + j) = σ (D + j)) (h2 : ra_g s 175 2 = ra_g σ 175 2 ∧ ra_g s 175 3 = ra_g σ 175 3 ∧ ra_g s 175 8 = ra_g σ 175 8 ∧ ra_g s 175 9 = ra_g σ 175 9 ∧ ra_g s 175 10 = ra_g σ 175 10 ∧ ra_g s 175 11 = ra_g σ 175 11) (h : x4AR r σ D) : x4AR r s D := by
  obtain ⟨a1, a2, a3, a4, a5, a6, a7⟩ := h
  have e0 : s D = σ D := h1 0 (by omega)
  have ep : ∀ p : Nat, p < 8 → s (D + 5 + p) = σ (D + 5 + p) := fun p hp => by rw [Nat.add_assoc]; exact h1 (5 + p) (by omega)
  refine ⟨?_, a2, by omega, a4, by omega, x4SZ_k (fun p hp => ra_gk (ep p hp)) a6, fun p hp hq => ?_⟩
  · rw [ra_gk e0, ra_gk e0, ra_gk e0, ra_gk e0, ra_gk e0]; exact a1
  · rw [ra_gk (ep p hp), ra_gk (ep p hp), ra_gk (ep p hp)]; exact a7 p hp hq
theorem x4up_n {w j : Nat} (h : j ≠ w) : tx_up r w v j = r j := if_neg h
theorem x4up_y {w : Nat} : tx_up r w v w = v := if_pos rfl
theorem x4AR_set {w : Nat} (hw : 1 ≤ w ∧ w ≤ 4) (h : x4AR r σ D) (hr : (w = 1 ∨ w = 2 → 0 ≤ v ∧ v ≤ 31) ∧ (w = 3 → 1 ≤ v ∧ v ≤ 32)) (hs : ∀ j : Nat, 4 ≤ j → j ≤ 8 → j ≠ 4 + w → ra_g s D j = ra_g σ D j) (hv : ra_g s D (4 + w) = v)
    (ht : ra_g s 175 (7 + w) = 1) (ho : ∀ j : Nat, 8 ≤ j → j ≤ 11 → j ≠ 7 + w → ra_g s 175 j = ra_g σ 175 j) (he : ra_g s 175 2 = ra_g σ 175 2 ∧ ra_g s 175 3 = ra_g σ 175 3) (hp : ∀ p : Nat, p < 8 → s (D + 5 + p) = σ (D + 5 + p)) : x4AR (tx_up (tx_up r w v) (100 + w) 1) s D := by
  obtain ⟨a1, a2, a3, a4, a5, a6, a7⟩ := h
  have f : ∀ j : Nat, j ≠ w → j ≠ 100 + w → tx_up (tx_up r w v) (100 + w) 1 j = r j := fun j h1 h2 => by rw [x4up_n h2, x4up_n h1]
  have g1 : tx_up (tx_up r w v) (100 + w) 1 w = v := by rw [x4up_n (by omega), x4up_y]
  have g2 : tx_up (tx_up r w v) (100 + w) 1 (100 + w) = 1 := x4up_y
  have u : ∀ j : Nat, j < 5 → (j = w ∧ tx_up (tx_up r w v) (100 + w) 1 j = v ∧ ra_g s D (4 + j) = v) ∨ (j ≠ w ∧ tx_up (tx_up r w v) (100 + w) 1 j = r j ∧ ra_g s D (4 + j) = ra_g σ D (4 + j)) := fun j hj => by
    by_cases e : j = w
    · subst e; exact Or.inl ⟨rfl, g1, hv⟩
    · exact Or.inr ⟨e, f j e (by omega), hs (4 + j) (by omega) (by omega) (by omega)⟩
  have q : ∀ j : Nat, 1 ≤ j → j ≤ 4 → (j = w ∧ tx_up (tx_up r w v) (100 + w) 1 (100 + j) = 1 ∧ ra_g s 175 (7 + j) = 1) ∨ (j ≠ w ∧ tx_up (tx_up r w v) (100 + w) 1 (100 + j) = r (100 + j) ∧ ra_g s 175 (7 + j) = ra_g σ 175 (7 + j)) := fun j h1 h2 => by
    by_cases e : j = w
    · subst e; exact Or.inl ⟨rfl, g2, ht⟩
    · exact Or.inr ⟨e, f (100 + j) (by omega) (by omega), ho (7 + j) (by omega) (by omega) (by omega)⟩
  have f5 : tx_up (tx_up r w v) (100 + w) 1 5 = r 5 := f 5 (by omega) (by omega)
  have u0 := u 0 (by omega)
  have u1 := u 1 (by omega)
  have u2 := u 2 (by omega)
  have u3 := u 3 (by omega)
  have u4 := u 4 (by omega)
  have q1 := q 1 (by omega) (by omega)
  have q2 := q 2 (by omega) (by omega)
  have q3 := q 3 (by omega) (by omega)
  have q4 := q 4 (by omega) (by omega)
  clear u q f
  simp only [Nat.reduceAdd] at u0 u1 u2 u3 u4 q1 q2 q3 q4
  refine ⟨by omega, by omega, by omega, by omega, by omega, ?_, fun p hp0 hq => ?_⟩
  · rw [f5]; exact x4SZ_k (fun p hp0 => ra_gk (hp p hp0)) a6
  · rw [f5] at hq
    rw [ra_gk (hp p hp0), ra_gk (hp p hp0), ra_gk (hp p hp0)]
    have f : ∀ j : Nat, j ≠ w → j ≠ 100 + w → tx_up (tx_up r w v) (100 + w) 1 j = r j := fun j h1 h2 => by rw [x4up_n h2, x4up_n h1]
    rw [f (25 + 8 * p) (by omega) (by omega), f (26 + 8 * p) (by omega) (by omega), f (29 + 8 * p) (by omega) (by omega)]
    exact a7 p hp0 hq
theorem x4AR_lock {j : Nat} (hj : j < 8) (hv : (j : Int) < r 5) (h : x4AR r σ D) (h0 : s D = σ D) (ho : ∀ p : Nat, p < 8 → p ≠ j → s (D + 5 + p) = σ (D + 5 + p)) (hl : ra_g s (D + 5 + j) 5 = 1) (hk : ra_g s (D + 5 + j) 1 = ra_g σ (D + 5 + j) 1 ∧ ra_g s (D + 5 + j) 2 = ra_g σ (D + 5 + j) 2)
    (he : ra_g s 175 2 = ra_g σ 175 2 ∧ ra_g s 175 3 = ra_g σ 175 3 ∧ ra_g s 175 8 = ra_g σ 175 8 ∧ ra_g s 175 9 = ra_g σ 175 9 ∧ ra_g s 175 10 = ra_g σ 175 10 ∧ ra_g s 175 11 = ra_g σ 175 11) : x4AR (tx_up r (29 + 8 * j) 1) s D := by
  obtain ⟨a1, a2, a3, a4, a5, a6, a7⟩ := h
  have f : ∀ i : Nat, i ≠ 29 + 8 * j → tx_up r (29 + 8 * j) 1 i = r i := fun i h1 => x4up_n h1
  have e2 : ∀ p : Nat, p < 8 → ra_g s (D + 5 + p) 2 = ra_g σ (D + 5 + p) 2 := fun p hp => by
    by_cases c : p = j
    · subst c; exact hk.2
    · exact ra_gk (ho p hp c)
  refine ⟨?_, ?_, ?_, ?_, by omega, ?_, fun p hp hq => ?_⟩
  · rw [ra_gk h0, ra_gk h0, ra_gk h0, ra_gk h0, ra_gk h0, f 0 (by omega), f 1 (by omega), f 2 (by omega), f 3 (by omega), f 4 (by omega)]; exact a1
  · rw [f 0 (by omega), f 1 (by omega), f 2 (by omega), f 3 (by omega), f 5 (by omega)]; exact a2
  · rw [f 101 (by omega), f 102 (by omega), f 103 (by omega), f 104 (by omega)]; omega
  · rw [f 101 (by omega), f 102 (by omega), f 103 (by omega), f 104 (by omega)]; exact a4
  · rw [f 5 (by omega)]; exact x4SZ_k e2 a6
  · rw [f 5 (by omega)] at hq
    have b := a7 p hp hq
    rw [e2 p hp, f (25 + 8 * p) (by omega), f (26 + 8 * p) (by omega)]
    by_cases c : p = j
    · subst c
      rw [x4up_y, hl, hk.1]
      exact ⟨b.1, b.2.1, rfl, Or.inr rfl, b.2.2.2.2.1, b.2.2.2.2.2⟩
    · rw [f (29 + 8 * p) (by omega), ra_gk (ho p hp c), ra_gk (ho p hp c)]
      exact b
/-- a partition made -/
def x4MKC (σ s : ra_V) (D : Nat) (k : Nat) (x y : Int) : Prop := (∀ j : Nat, 4 ≤ j → j ≤ 8 → ra_g s D j = ra_g σ D j) ∧ (∀ p : Nat, p < 8 → p ≠ k → s (D + 5 + p) = σ (D + 5 + p)) ∧ ra_g s (D + 5 + k) 1 = x ∧ ra_g s (D + 5 + k) 2 = y ∧ ra_g s (D + 5 + k) 5 = 0
theorem x4AR_mk {st sz kd mn : Int} (h : x4AR r σ D) (h8 : r 5 ≠ 8) (hm : x4MKC σ s D (r 5).toNat st sz) (hst : 0 ≤ st ∧ 1 ≤ sz ∧ st + sz ≤ 600) (h175 : s 175 = σ 175) : x4AR (tx_mk r st sz kd mn) s D := by
  obtain ⟨a1, a2, a3, a4, a5, a6, a7⟩ := h
  obtain ⟨m1, m2, m3, m4, m5⟩ := hm
  have f : ∀ j : Nat, (j < 5 ∨ 88 ≤ j) → tx_mk r st sz kd mn j = r j := fun j hj => by
    unfold tx_mk
    rw [if_neg (by omega), if_neg (by omega), if_neg (by omega), if_neg (by omega), if_neg (by omega), if_neg (by omega), if_neg (by omega), if_neg (by omega), if_neg (by omega)]
  have f5 : tx_mk r st sz kd mn 5 = r 5 + 1 := by unfold tx_mk; rw [if_pos rfl]
  have b4 := m1 4 (by omega) (by omega)
  have b5 := m1 5 (by omega) (by omega)
  have b6 := m1 6 (by omega) (by omega)
  have b7 := m1 7 (by omega) (by omega)
  have x4b8 := m1 8 (by omega) (by omega)
  refine ⟨?_, ?_, ?_, ?_, ?_, ?_, fun p hp hq => ?_⟩
  · rw [f 0 (by omega), f 1 (by omega), f 2 (by omega), f 3 (by omega), f 4 (by omega)]; omega
  · rw [f 0 (by omega), f 1 (by omega), f 2 (by omega), f 3 (by omega), f5]; omega
  · rw [f 101 (by omega), f 102 (by omega), f 103 (by omega), f 104 (by omega), ra_gk h175, ra_gk h175, ra_gk h175, ra_gk h175]; exact a3
  · rw [f 101 (by omega), f 102 (by omega), f 103 (by omega), f 104 (by omega)]; exact a4
  · rw [ra_gk h175, ra_gk h175]; exact a5
  · rw [f5]
    refine ⟨by omega, fun p hp => ?_⟩
    by_cases c : p = (r 5).toNat
    · rw [c, m4]; omega
    · rw [ra_gk (m2 p hp c)]
      have := a6.2 p hp
      omega
  · rw [f5] at hq
    by_cases c : p = (r 5).toNat
    · subst c
      have g1 : tx_mk r st sz kd mn (25 + 8 * (r 5).toNat) = st := by unfold tx_mk; rw [if_neg (by omega), if_neg (by omega), if_pos rfl]
      have g2 : tx_mk r st sz kd mn (26 + 8 * (r 5).toNat) = sz := by unfold tx_mk; rw [if_neg (by omega), if_neg (by omega), if_neg (by omega), if_pos rfl]
      have g3 : tx_mk r st sz kd mn (29 + 8 * (r 5).toNat) = 0 := by unfold tx_mk; rw [if_neg (by omega), if_neg (by omega), if_neg (by omega), if_neg (by omega), if_neg (by omega), if_neg (by omega), if_pos rfl]
      rw [g1, g2, g3]
      exact ⟨m3, m4, m5, Or.inl rfl, hst.1, hst.2.2⟩
    · have g : ∀ w : Nat, w < 8 → tx_mk r st sz kd mn (24 + w + 8 * p) = r (24 + w + 8 * p) := fun w hw => by
        unfold tx_mk
        rw [if_neg (by omega), if_neg (by omega), if_neg (by omega), if_neg (by omega), if_neg (by omega), if_neg (by omega), if_neg (by omega), if_neg (by omega), if_neg (by omega)]
      have g1 : tx_mk r st sz kd mn (25 + 8 * p) = r (25 + 8 * p) := g 1 (by omega)
      have g2 : tx_mk r st sz kd mn (26 + 8 * p) = r (26 + 8 * p) := g 2 (by omega)
      have g3 : tx_mk r st sz kd mn (29 + 8 * p) = r (29 + 8 * p) := g 5 (by omega)
      rw [g1, g2, g3, ra_gk (m2 p hp c), ra_gk (m2 p hp c), ra_gk (m2 p hp c)]
      exact a7 p hp (by omega)
/-- hidden from omega -/
def x4IFZ (P : Prop) (z : Int) : Prop := P ↔ z ≠ 0
def x4IFW (z : Int) (P : Prop) : Prop := z = 1 ↔ P
theorem x4tm_iff : tx_meets r x y = true ↔ ∃ p : Nat, p < 8 ∧ (p : Int) < r 5 ∧ x < r (25 + 8 * p) + r (26 + 8 * p) ∧ r (25 + 8 * p) < x + y := by
  unfold tx_meets
  simp only [List.any_eq_true, List.mem_range, decide_eq_true_eq]
theorem x4AR_mt (h : x4AR r σ D) : (∃ p : Int, 0 ≤ p ∧ p < 8 ∧ x4MT σ D x y p.toNat) ↔ tx_meets r x y = true := by
  obtain ⟨-, -, -, -, -, hz, ha⟩ := h
  rw [x4tm_iff]
  constructor
  · rintro ⟨p, p0, p1, m1, m2, m3⟩
    have hq := (hz.2 p.toNat (by omega)).mp m1
    obtain ⟨b1, b2, -⟩ := ha p.toNat (by omega) hq
    exact ⟨p.toNat, by omega, hq, by omega, by omega⟩
  · rintro ⟨p, p0, p1, m2, m3⟩
    obtain ⟨b1, b2, -⟩ := ha p p0 p1
    have m1 := (hz.2 p p0).mpr p1
    refine ⟨(p : Int), by omega, by omega, ?_⟩
    rw [Int.toNat_natCast]
    exact ⟨m1, by omega, by omega⟩
/-- what a piece of a text comes to: the class -/
def x4OC (bn : Nat) (s : ra_V) (D : Nat) (z : Int) (o : Sum (Int × Nat) ((Nat → Int) × Nat)) : Prop :=
  (z = 1 ∧ ∃ (r : Nat → Int) (e : Nat), o = .inr (r, e) ∧ x4AR r s D ∧ ra_g s 175 4 = (e : Nat) ∧ e ≤ bn) ∨ (z = 0 ∧ ∃ (c : Int) (a : Nat), o = .inl (c, a) ∧ ra_g s 175 2 = c ∧ ra_g s 175 3 = (a : Nat))
theorem x4oc_f {o : Sum (Int × Nat) ((Nat → Int) × Nat)} {c : Int} (hz : z = 0) (ho : o = .inl (c, a)) (h2 : ra_g s 175 2 = c) (h3 : ra_g s 175 3 = (a : Nat)) : x4OC bn s D z o := Or.inr ⟨hz, c, a, ho, h2, h3⟩
theorem x4oc_y {o : Sum (Int × Nat) ((Nat → Int) × Nat)} (hz : z = 1) (ho : o = .inr (r, e)) (hA : x4AR r s D) (hp : ra_g s 175 4 = (e : Nat)) (he : e ≤ bn) : x4OC bn s D z o := Or.inl ⟨hz, r, e, ho, hA, hp, he⟩
theorem x4oc_rd {o : Sum (Int × Nat) ((Nat → Int) × Nat)} {w lo hi : Int} (h : x4NUM B bn σ s w i lo hi) (hw : w = 0) (hz : z = 0) (ho : ∀ x, tx_rd B bn i lo hi = .inl x → o = .inl x) : x4OC bn s D z o := by
  rcases h with ⟨h, -⟩ | ⟨-, c, a, h1, h2, h3⟩
  · omega
  · exact x4oc_f hz (ho _ h1) h2 h3
/-! a setting -/
section
variable {slot what : Nat} {early : Bool} {lo hi : Int} {u : Int × Nat}
theorem x4set_e (h1 : early = true) (h2 : 0 < r 5) : tx_set B n r a what slot early lo hi = .inl (1, a) := by unfold tx_set; rw [if_pos ⟨h1, h2⟩]
theorem x4set_t (h1 : ¬ (early = true ∧ 0 < r 5)) (h2 : r slot = 1) : tx_set B n r a what slot early lo hi = .inl (3, a) := by unfold tx_set; rw [if_neg h1, if_pos h2]
theorem x4set_n (h1 : ¬ (early = true ∧ 0 < r 5)) (h2 : r slot ≠ 1) (h3 : tx_rd B n (tx_e B n a) lo hi = .inl u) : tx_set B n r a what slot early lo hi = .inl u := by unfold tx_set; rw [if_neg h1, if_neg h2, h3]
theorem x4set_y (h1 : ¬ (early = true ∧ 0 < r 5)) (h2 : r slot ≠ 1) (h3 : tx_rd B n (tx_e B n a) lo hi = .inr (v, e)) : tx_set B n r a what slot early lo hi = .inr (tx_up (tx_up r what v) slot 1, e) := by unfold tx_set; rw [if_neg h1, if_neg h2, h3]
theorem x4lock_n (h : tx_rd B n (tx_e B n a) 0 (r 5 - 1) = .inl u) : tx_lock B n r a = .inl u := by unfold tx_lock; rw [h]
theorem x4lock_t (h : tx_rd B n (tx_e B n a) 0 (r 5 - 1) = .inr (v, e)) (h2 : r (29 + 8 * v.toNat) = 1) : tx_lock B n r a = .inl (3, tx_a B n (tx_e B n a)) := by unfold tx_lock; rw [h]; dsimp only; rw [if_pos h2]
theorem x4lock_y (h : tx_rd B n (tx_e B n a) 0 (r 5 - 1) = .inr (v, e)) (h2 : r (29 + 8 * v.toNat) ≠ 1) : tx_lock B n r a = .inr (tx_up r (29 + 8 * v.toNat) 1, e) := by unfold tx_lock; rw [h]; dsimp only; rw [if_neg h2]
section
variable {st sz kd mn : Int} {e1 e2 e3 e4 : Nat}
theorem x4part_0 (h : r 5 = 8) : tx_part B n r a = .inl (5, a) := by unfold tx_part; rw [if_pos h]
theorem x4part_1 (h : r 5 ≠ 8) (h1 : tx_rd B n (tx_e B n a) (r 1) (r 0 - r 2 - 1) = .inl u) : tx_part B n r a = .inl u := by unfold tx_part; rw [if_neg h, h1]
theorem x4part_2 (h : r 5 ≠ 8) (h1 : tx_rd B n (tx_e B n a) (r 1) (r 0 - r 2 - 1) = .inr (st, e1)) (h2 : st % r 3 ≠ 0) : tx_part B n r a = .inl (2, tx_a B n (tx_e B n a)) := by unfold tx_part; rw [if_neg h, h1]; dsimp only; rw [if_pos h2]
theorem x4part_3 (h : r 5 ≠ 8) (h1 : tx_rd B n (tx_e B n a) (r 1) (r 0 - r 2 - 1) = .inr (st, e1)) (h2 : st % r 3 = 0) (h3 : tx_rd B n e1 1 (r 0 - r 2 - st) = .inl u) : tx_part B n r a = .inl u := by unfold tx_part; rw [if_neg h, h1]; dsimp only; rw [if_neg (fun q => q h2), h3]
theorem x4part_4 (h : r 5 ≠ 8) (h1 : tx_rd B n (tx_e B n a) (r 1) (r 0 - r 2 - 1) = .inr (st, e1)) (h2 : st % r 3 = 0) (h3 : tx_rd B n e1 1 (r 0 - r 2 - st) = .inr (sz, e2)) (h4 : tx_meets r st sz = true) : tx_part B n r a = .inl (4, tx_a B n e1) := by unfold tx_part; rw [if_neg h, h1]; dsimp only; rw [if_neg (fun q => q h2), h3]; dsimp only; rw [if_pos h4]
theorem x4part_5 (h : r 5 ≠ 8) (h1 : tx_rd B n (tx_e B n a) (r 1) (r 0 - r 2 - 1) = .inr (st, e1)) (h2 : st % r 3 = 0) (h3 : tx_rd B n e1 1 (r 0 - r 2 - st) = .inr (sz, e2)) (h4 : ¬ tx_meets r st sz = true) (h5 : tx_rd B n e2 0 9 = .inl u) : tx_part B n r a = .inl u := by unfold tx_part; rw [if_neg h, h1]; dsimp only; rw [if_neg (fun q => q h2), h3]; dsimp only; rw [if_neg h4, h5]
theorem x4part_6 (h : r 5 ≠ 8) (h1 : tx_rd B n (tx_e B n a) (r 1) (r 0 - r 2 - 1) = .inr (st, e1)) (h2 : st % r 3 = 0) (h3 : tx_rd B n e1 1 (r 0 - r 2 - st) = .inr (sz, e2)) (h4 : ¬ tx_meets r st sz = true) (h5 : tx_rd B n e2 0 9 = .inr (kd, e3)) (h6 : tx_rd B n e3 1 sz = .inl u) : tx_part B n r a = .inl u := by unfold tx_part; rw [if_neg h, h1]; dsimp only; rw [if_neg (fun q => q h2), h3]; dsimp only; rw [if_neg h4, h5]; dsimp only; rw [h6]
theorem x4part_y (h : r 5 ≠ 8) (h1 : tx_rd B n (tx_e B n a) (r 1) (r 0 - r 2 - 1) = .inr (st, e1)) (h2 : st % r 3 = 0) (h3 : tx_rd B n e1 1 (r 0 - r 2 - st) = .inr (sz, e2)) (h4 : ¬ tx_meets r st sz = true) (h5 : tx_rd B n e2 0 9 = .inr (kd, e3)) (h6 : tx_rd B n e3 1 sz = .inr (mn, e4)) : tx_part B n r a = .inr (tx_mk r st sz kd mn, e4) := by unfold tx_part; rw [if_neg h, h1]; dsimp only; rw [if_neg (fun q => q h2), h3]; dsimp only; rw [if_neg h4, h5]; dsimp only; rw [h6]
end
end
/-! a statement: its word -/
theorem x4isw_0 {c : Char} {w : List Char} (h : tx_isw B n a (c :: w) = true) : B a = (c.toNat : Int) := (x4isw_iff.mp h).2.2 0 (Nat.zero_lt_succ _)
theorem x4isw_x {c c2 : Char} {w w2 : List Char} (h : tx_isw B n a (c :: w) = true) (hc : c.toNat ≠ c2.toNat) : ¬ tx_isw B n a (c2 :: w2) = true := fun q => by
  have h1 := x4isw_0 h
  have h2 := x4isw_0 q
  omega
theorem x4stm_head (h : tx_isw B n a ['h', 'e', 'a', 'd'] = true) : tx_stmt B n r a = tx_set B n r a 1 101 true 0 31 := by unfold tx_stmt; rw [if_pos h]
theorem x4stm_tail (h : tx_isw B n a ['t', 'a', 'i', 'l'] = true) : tx_stmt B n r a = tx_set B n r a 2 102 true 0 31 := by unfold tx_stmt; rw [if_neg (x4isw_x h (by decide)), if_pos h]
theorem x4stm_align (h : tx_isw B n a ['a', 'l', 'i', 'g', 'n'] = true) : tx_stmt B n r a = tx_set B n r a 3 103 true 1 32 := by unfold tx_stmt; rw [if_neg (x4isw_x h (by decide)), if_neg (x4isw_x h (by decide)), if_pos h]
theorem x4stm_chunk (h : tx_isw B n a ['c', 'h', 'u', 'n', 'k'] = true) : tx_stmt B n r a = tx_set B n r a 4 104 false 1 16 := by unfold tx_stmt; rw [if_neg (x4isw_x h (by decide)), if_neg (x4isw_x h (by decide)), if_neg (x4isw_x h (by decide)), if_pos h]
theorem x4stm_part (h : tx_isw B n a ['p', 'a', 'r', 't'] = true) : tx_stmt B n r a = tx_part B n r a := by unfold tx_stmt; rw [if_neg (x4isw_x h (by decide)), if_neg (x4isw_x h (by decide)), if_neg (x4isw_x h (by decide)), if_neg (x4isw_x h (by decide)), if_pos h]
theorem x4stm_lock (h : tx_isw B n a ['l', 'o', 'c', 'k'] = true) : tx_stmt B n r a = tx_lock B n r a := by unfold tx_stmt; rw [if_neg (x4isw_x h (by decide)), if_neg (x4isw_x h (by decide)), if_neg (x4isw_x h (by decide)), if_neg (x4isw_x h (by decide)), if_neg (x4isw_x h (by decide)), if_pos h]
theorem x4stm_no (h1 : ¬ tx_isw B n a ['h', 'e', 'a', 'd'] = true) (h2 : ¬ tx_isw B n a ['t', 'a', 'i', 'l'] = true) (h3 : ¬ tx_isw B n a ['a', 'l', 'i', 'g', 'n'] = true) (h4 : ¬ tx_isw B n a ['c', 'h', 'u', 'n', 'k'] = true) (h5 : ¬ tx_isw B n a ['p', 'a', 'r', 't'] = true) (h6 : ¬ tx_isw B n a ['l', 'o', 'c', 'k'] = true) : tx_stmt B n r a = .inl (1, a) := by unfold tx_stmt; rw [if_neg h1, if_neg h2, if_neg h3, if_neg h4, if_neg h5, if_neg h6]
/-- a piece, then its semicolon -/
theorem x4ps_n {o : Sum (Int × Nat) ((Nat → Int) × Nat)} {z2 : Int} (h : x4OC bn s D z o) (hz : z = 0) (hz2 : z2 = 0) : x4OC bn s D z2 (tx_ps B bn o) := by
  rcases h with ⟨q, -⟩ | ⟨-, c, a, h1, h2, h3⟩
  · omega
  · rw [h1]; exact x4oc_f hz2 rfl h2 h3
theorem x4ps_f {o : Sum (Int × Nat) ((Nat → Int) × Nat)} {w : Int} (ho : o = .inr (r, e)) (h : x4SEM B bn t s w e) (hw : w = 0) (hz : z = 0) : x4OC bn s D z (tx_ps B bn o) := by
  rcases h with ⟨q, -⟩ | ⟨-, c, a, h1, h2, h3⟩
  · omega
  · refine x4oc_f (c := c) (a := a) hz ?_ h2 h3
    rw [ho]
    unfold tx_ps
    dsimp only
    rw [h1]
theorem x4ps_y {o : Sum (Int × Nat) ((Nat → Int) × Nat)} {w : Int} (ho : o = .inr (r, e)) (hA : x4AR r t D) (h : x4SEM B bn t s w e) (hw : w ≠ 0) (hz : z = 1) (hd : ∀ j : Nat, j < 13 → s (D + j) = t (D + j)) (h5 : ra_g s 175 8 = ra_g t 175 8 ∧ ra_g s 175 9 = ra_g t 175 9 ∧ ra_g s 175 10 = ra_g t 175 10 ∧ ra_g s 175 11 = ra_g t 175 11) : x4OC bn s D z (tx_ps B bn o) := by
  rcases h with ⟨-, e2, h1, h2, h3, h4, h6⟩ | ⟨q, -⟩
  · refine x4oc_y (r := r) (e := e2) hz ?_ (x4AR_k hd ⟨h4, h6, h5⟩ hA) h2 h3
    rw [ho]
    unfold tx_ps
    dsimp only
    rw [h1]
  · omega
/-! a setting ahead of all partitions -/
section
variable {v2 v3 lo hi : Int} {u : Int × Nat}
def x4LYW (B : Nat → Int) (n a : Nat) (v2 v3 : Int) : Prop := (v2 = 1 ∧ tx_isw B n a ['h', 'e', 'a', 'd'] = true) ∨ (v2 = 0 ∧ v3 = 1 ∧ tx_isw B n a ['t', 'a', 'i', 'l'] = true) ∨ (v2 = 0 ∧ v3 = 0 ∧ tx_isw B n a ['a', 'l', 'i', 'g', 'n'] = true)
def x4LNT (r : Nat → Int) (v2 v3 : Int) : Prop := (v2 = 1 → r 101 ≠ 1) ∧ (v2 = 0 → v3 = 1 → r 102 ≠ 1) ∧ (v2 = 0 → v3 = 0 → r 103 ≠ 1)
theorem x4lay_1 (hn : ¬ tx_isw B n a ['p', 'a', 'r', 't'] = true ∧ ¬ tx_isw B n a ['l', 'o', 'c', 'k'] = true ∧ ¬ tx_isw B n a ['c', 'h', 'u', 'n', 'k'] = true) (h : (¬ tx_isw B n a ['h', 'e', 'a', 'd'] = true ∧ ¬ tx_isw B n a ['t', 'a', 'i', 'l'] = true ∧ ¬ tx_isw B n a ['a', 'l', 'i', 'g', 'n'] = true) ∨ 0 < r 5) : tx_stmt B n r a = .inl (1, a) := by
  by_cases h1 : tx_isw B n a ['h', 'e', 'a', 'd'] = true
  · rw [x4stm_head h1]
    exact x4set_e rfl (h.resolve_left (fun q => q.1 h1))
  · by_cases h2 : tx_isw B n a ['t', 'a', 'i', 'l'] = true
    · rw [x4stm_tail h2]
      exact x4set_e rfl (h.resolve_left (fun q => q.2.1 h2))
    · by_cases h3 : tx_isw B n a ['a', 'l', 'i', 'g', 'n'] = true
      · rw [x4stm_align h3]
        exact x4set_e rfl (h.resolve_left (fun q => q.2.2 h3))
      · exact x4stm_no h1 h2 h3 hn.2.2 hn.1 hn.2.1
theorem x4lay_3 (hw : x4LYW B n a v2 v3) (h5 : r 5 ≤ 0) (ht : (v2 = 1 ∧ r 101 = 1) ∨ (v2 = 0 ∧ v3 = 1 ∧ r 102 = 1) ∨ (v2 = 0 ∧ v3 = 0 ∧ r 103 = 1)) : tx_stmt B n r a = .inl (3, a) := by
  rcases hw with ⟨q, h⟩ | ⟨q, q2, h⟩ | ⟨q, q2, h⟩
  · rw [x4stm_head h]; exact x4set_t (fun z => absurd z.2 (by omega)) (by omega)
  · rw [x4stm_tail h]; exact x4set_t (fun z => absurd z.2 (by omega)) (by omega)
  · rw [x4stm_align h]; exact x4set_t (fun z => absurd z.2 (by omega)) (by omega)
theorem x4lay_n1 (hw : x4LYW B n a v2 v3) (h5 : r 5 ≤ 0) (hnt0 : x4LNT r v2 v3) (hv : v2 = 1 ∨ v3 = 1) (hx : tx_rd B n (tx_e B n a) 0 31 = .inl u) : tx_stmt B n r a = .inl u := by
  have hnt : (v2 = 1 → r 101 ≠ 1) ∧ (v2 = 0 → v3 = 1 → r 102 ≠ 1) ∧ (v2 = 0 → v3 = 0 → r 103 ≠ 1) := hnt0
  rcases hw with ⟨q, h⟩ | ⟨q, q2, h⟩ | ⟨q, q2, h⟩
  · rw [x4stm_head h]; exact x4set_n (fun z => absurd z.2 (by omega)) (by omega) hx
  · rw [x4stm_tail h]; exact x4set_n (fun z => absurd z.2 (by omega)) (by omega) hx
  · omega
theorem x4lay_n2 (hw : x4LYW B n a v2 v3) (h5 : r 5 ≤ 0) (hnt0 : x4LNT r v2 v3) (hv : v2 = 0) (hv3 : v3 = 0) (hx : tx_rd B n (tx_e B n a) 1 32 = .inl u) : tx_stmt B n r a = .inl u := by
  have hnt : (v2 = 1 → r 101 ≠ 1) ∧ (v2 = 0 → v3 = 1 → r 102 ≠ 1) ∧ (v2 = 0 → v3 = 0 → r 103 ≠ 1) := hnt0
  rcases hw with ⟨q, h⟩ | ⟨q, q2, h⟩ | ⟨q, q2, h⟩
  · omega
  · omega
  · rw [x4stm_align h]; exact x4set_n (fun z => absurd z.2 (by omega)) (by omega) hx
theorem x4lay_y1 (hw : x4LYW B n a v2 v3) (h5 : r 5 ≤ 0) (hnt0 : x4LNT r v2 v3) (hv : v2 = 1) (hx : tx_rd B n (tx_e B n a) 0 31 = .inr (v, e)) : tx_stmt B n r a = .inr (tx_up (tx_up r 1 v) (100 + 1) 1, e) := by
  have hnt : (v2 = 1 → r 101 ≠ 1) ∧ (v2 = 0 → v3 = 1 → r 102 ≠ 1) ∧ (v2 = 0 → v3 = 0 → r 103 ≠ 1) := hnt0
  rcases hw with ⟨q, h⟩ | ⟨q, q2, h⟩ | ⟨q, q2, h⟩
  · rw [x4stm_head h]; exact x4set_y (fun z => absurd z.2 (by omega)) (by omega) hx
  · omega
  · omega
theorem x4lay_y2 (hw : x4LYW B n a v2 v3) (h5 : r 5 ≤ 0) (hnt0 : x4LNT r v2 v3) (hv : v2 = 0) (hv3 : v3 = 1) (hx : tx_rd B n (tx_e B n a) 0 31 = .inr (v, e)) : tx_stmt B n r a = .inr (tx_up (tx_up r 2 v) (100 + 2) 1, e) := by
  have hnt : (v2 = 1 → r 101 ≠ 1) ∧ (v2 = 0 → v3 = 1 → r 102 ≠ 1) ∧ (v2 = 0 → v3 = 0 → r 103 ≠ 1) := hnt0
  rcases hw with ⟨q, h⟩ | ⟨q, q2, h⟩ | ⟨q, q2, h⟩
  · omega
  · rw [x4stm_tail h]; exact x4set_y (fun z => absurd z.2 (by omega)) (by omega) hx
  · omega
theorem x4lay_y3 (hw : x4LYW B n a v2 v3) (h5 : r 5 ≤ 0) (hnt0 : x4LNT r v2 v3) (hv : v2 = 0) (hv3 : v3 = 0) (hx : tx_rd B n (tx_e B n a) 1 32 = .inr (v, e)) : tx_stmt B n r a = .inr (tx_up (tx_up r 3 v) (100 + 3) 1, e) := by
  have hnt : (v2 = 1 → r 101 ≠ 1) ∧ (v2 = 0 → v3 = 1 → r 102 ≠ 1) ∧ (v2 = 0 → v3 = 0 → r 103 ≠ 1) := hnt0
  rcases hw with ⟨q, h⟩ | ⟨q, q2, h⟩ | ⟨q, q2, h⟩
  · omega
  · omega
  · rw [x4stm_align h]; exact x4set_y (fun z => absurd z.2 (by omega)) (by omega) hx
end
/-! the whole text -/
def x4PO (s : ra_V) (D : Nat) (z : Int) (o : Sum (Int × Nat) (Nat → Int)) : Prop :=
  (z = 1 ∧ ∃ r : Nat → Int, o = .inr r ∧ x4AR r s D) ∨ (z = 0 ∧ ∃ (c : Int) (a : Nat), o = .inl (c, a) ∧ ra_g s 175 2 = c ∧ ra_g s 175 3 = (a : Nat))
def x4LI (B : Nat → Int) (bn : Nat) (s : ra_V) (D : Nat) (z k : Int) : Prop :=
  (z = 1 ∧ ∃ (r : Nat → Int) (e : Nat), tx_text B bn = tx_run B bn (500 - k).toNat r e ∧ x4AR r s D ∧ ra_g s 175 4 = (e : Nat) ∧ e ≤ bn) ∨ (z = 0 ∧ ∃ (c : Int) (a : Nat), tx_text B bn = .inl (c, a) ∧ ra_g s 175 2 = c ∧ ra_g s 175 3 = (a : Nat))
section
variable {o : Sum (Int × Nat) (Nat → Int)} {c : Int} {u : Int × Nat}
theorem x4po_f (hz : z = 0) (ho : o = .inl (c, a)) (h2 : ra_g s 175 2 = c) (h3 : ra_g s 175 3 = (a : Nat)) : x4PO s D z o := Or.inr ⟨hz, c, a, ho, h2, h3⟩
theorem x4po_rd {w lo hi : Int} (h : x4NUM B bn σ s w i lo hi) (hw : w = 0) (hz : z = 0) (ho : ∀ x, tx_rd B bn i lo hi = .inl x → o = .inl x) : x4PO s D z o := by
  rcases h with ⟨h, -⟩ | ⟨-, c, a, h1, h2, h3⟩
  · omega
  · exact x4po_f hz (ho _ h1) h2 h3
theorem x4text_1 (h : ¬ tx_isw B bn (tx_a B bn 0) ['d', 'i', 's', 'k'] = true) : tx_text B bn = .inl (1, tx_a B bn 0) := by unfold tx_text; rw [if_neg h]
theorem x4text_2 (h : tx_isw B bn (tx_a B bn 0) ['d', 'i', 's', 'k'] = true) (h1 : tx_rd B bn (tx_e B bn (tx_a B bn 0)) 64 600 = .inl u) : tx_text B bn = .inl u := by unfold tx_text; rw [if_pos h, h1]
theorem x4text_3 (h : tx_isw B bn (tx_a B bn 0) ['d', 'i', 's', 'k'] = true) (h1 : tx_rd B bn (tx_e B bn (tx_a B bn 0)) 64 600 = .inr (v, e)) (h2 : tx_semi B bn e = .inl u) : tx_text B bn = .inl u := by unfold tx_text; rw [if_pos h, h1]; dsimp only; rw [h2]
theorem x4text_4 (h : tx_isw B bn (tx_a B bn 0) ['d', 'i', 's', 'k'] = true) (h1 : tx_rd B bn (tx_e B bn (tx_a B bn 0)) 64 600 = .inr (v, e)) (h2 : tx_semi B bn e = .inr i) : tx_text B bn = tx_run B bn 500 (tx_r0 v) i := by unfold tx_text; rw [if_pos h, h1]; dsimp only; rw [h2]
theorem x4run_e (h : tx_k B bn (tx_a B bn i) = 0) : tx_run B bn k r i = .inr r := by
  cases k with
  | zero => rfl
  | succ k =>
    show (if tx_k B bn (tx_a B bn i) = 0 then _ else _) = _
    rw [if_pos h]
theorem x4run_n (h : tx_k B bn (tx_a B bn i) ≠ 0) (h2 : tx_ps B bn (tx_stmt B bn r (tx_a B bn i)) = .inl u) : tx_run B bn (k + 1) r i = .inl u := by
  show (if tx_k B bn (tx_a B bn i) = 0 then _ else _) = _
  rw [if_neg h, h2]
theorem x4run_y {r2 : Nat → Int} (h : tx_k B bn (tx_a B bn i) ≠ 0) (h2 : tx_ps B bn (tx_stmt B bn r (tx_a B bn i)) = .inr (r2, e)) : tx_run B bn (k + 1) r i = tx_run B bn k r2 e := by
  show (if tx_k B bn (tx_a B bn i) = 0 then _ else _) = _
  rw [if_neg h, h2]
theorem x4po_e {j : Int} (ht : tx_text B bn = tx_run B bn j.toNat r i) (hA : x4AR r s D) (hz : z = 1) (hN : tx_k B bn (tx_a B bn i) = 0) : x4PO s D z (tx_text B bn) := Or.inl ⟨hz, r, ht.trans (x4run_e hN), hA⟩
theorem x4po_l {j : Int} (h : x4LI B bn s D z j) (hj : z = 0 ∨ 500 ≤ j) : x4PO s D z (tx_text B bn) := by
  rcases h with ⟨q, r, e, h1, h2, h3, h4⟩ | h
  · refine Or.inl ⟨q, r, ?_, h2⟩
    rw [h1, show (500 - j).toNat = 0 by omega]
    rfl
  · exact Or.inr h
theorem x4li_0 {w : Int} (h : tx_isw B bn (tx_a B bn 0) ['d', 'i', 's', 'k'] = true) (h1 : tx_rd B bn (tx_e B bn (tx_a B bn 0)) 64 600 = .inr (v, e)) (hA : x4AR (tx_r0 v) t D) (hs : x4SEM B bn t s w e) (hd : ∀ j : Nat, j < 13 → s (D + j) = t (D + j)) (h5 : ra_g s 175 8 = ra_g t 175 8 ∧ ra_g s 175 9 = ra_g t 175 9 ∧ ra_g s 175 10 = ra_g t 175 10 ∧ ra_g s 175 11 = ra_g t 175 11) : x4LI B bn s D w 0 := by
  rcases hs with ⟨q, e2, s1, s2, s3, s4, s5⟩ | ⟨q, c, a, s1, s2, s3⟩
  · exact Or.inl ⟨q, tx_r0 v, e2, x4text_4 h h1 s1, x4AR_k hd ⟨s4, s5, h5⟩ hA, s2, s3⟩
  · exact Or.inr ⟨q, c, a, x4text_3 h h1 s1, s2, s3⟩
theorem x4li_s {w j : Int} (h : x4OC bn s D w (tx_ps B bn (tx_stmt B bn r (tx_a B bn i)))) (ht : tx_text B bn = tx_run B bn (500 - j).toNat r i) (hj : j < 500) (hk : tx_k B bn (tx_a B bn i) ≠ 0) : x4LI B bn s D w (j + 1) := by
  have e1 : (500 - j).toNat = (500 - (j + 1)).toNat + 1 := by omega
  rw [e1] at ht
  rcases h with ⟨q, r2, e2, h1, h2, h3, h4⟩ | ⟨q, c, a, h1, h2, h3⟩
  · exact Or.inl ⟨q, r2, e2, ht.trans (x4run_y hk h1), h2, h3, h4⟩
  · exact Or.inr ⟨q, c, a, ht.trans (x4run_n hk h1), h2, h3⟩
theorem x4AR_0 (hv : 64 ≤ v ∧ v ≤ 600) (h1 : ra_g s D 4 = v ∧ ra_g s D 5 = 0 ∧ ra_g s D 6 = 0 ∧ ra_g s D 7 = 1 ∧ ra_g s D 8 = 4) (hz : ∀ p : Nat, p < 8 → ra_g s (D + 5 + p) 2 = 0) (h5 : ra_g s 175 2 = 0 ∧ ra_g s 175 3 = -1 ∧ ra_g s 175 8 = 0 ∧ ra_g s 175 9 = 0 ∧ ra_g s 175 10 = 0 ∧ ra_g s 175 11 = 0) : x4AR (tx_r0 v) s D := by
  have f : ∀ j : Nat, j ≠ 0 → j ≠ 3 → j ≠ 4 → tx_r0 v j = 0 := fun j a b c => by unfold tx_r0; rw [if_neg a, if_neg b, if_neg c]
  have e0 : tx_r0 v 0 = v := rfl
  have e3 : tx_r0 v 3 = 1 := rfl
  have e4 : tx_r0 v 4 = 4 := rfl
  have e1 := f 1 (by decide) (by decide) (by decide)
  have e2 := f 2 (by decide) (by decide) (by decide)
  have e5 := f 5 (by decide) (by decide) (by decide)
  have e101 := f 101 (by decide) (by decide) (by decide)
  have e102 := f 102 (by decide) (by decide) (by decide)
  have e103 := f 103 (by decide) (by decide) (by decide)
  have e104 := f 104 (by decide) (by decide) (by decide)
  refine ⟨by omega, by omega, by omega, by omega, by omega, ⟨by omega, fun p hp => ?_⟩, fun p hp hq => ?_⟩
  · rw [hz p hp, e5]; omega
  · rw [e5] at hq; omega
theorem x4sz_cp {q q2 : ra_V} (hA : x4AR r σ 14) (h1 : ∀ p : Nat, p < 8 → ra_g s (1 + 5 + p) 2 = ra_g q (1 + 5 + p) 2) (h2 : ∀ p : Nat, p < 8 → ra_g q (1 + 5 + p) 2 = ra_g q2 (14 + 5 + p) 2) (h3 : ∀ p : Nat, p < 8 → ra_g q2 (14 + 5 + p) 2 = ra_g σ (14 + 5 + p) 2) : x4SZ s 1 (r 5) := by
  obtain ⟨-, -, -, -, -, hz, -⟩ := hA
  refine ⟨hz.1, fun p hp => ?_⟩
  rw [h1 p hp, h2 p hp, h3 p hp]
  exact hz.2 p hp
theorem x4po_2 (h : x4PO s D z o) : ra_g s 175 2 = tx_err o := by
  rcases h with ⟨-, r, h1, h2⟩ | ⟨-, c, a, h1, h2, h3⟩
  · rw [h1]; exact h2.2.2.2.2.1.1
  · rw [h1]; exact h2
theorem x4po_3 (h : x4PO s D z o) : ra_g s 175 3 = tx_off o := by
  rcases h with ⟨-, r, h1, h2⟩ | ⟨-, c, a, h1, h2, h3⟩
  · rw [h1]; exact h2.2.2.2.2.1.2
  · rw [h1]; exact h3
theorem x4po_n (h : x4PO s D z o) (hz : z = 0) : -1 = tx_ans o := by
  rcases h with ⟨q, -⟩ | ⟨-, c, a, h1, -⟩
  · omega
  · rw [h1]; rfl
theorem x4po_y (h : o = .inr r) : r 5 = tx_ans o := by rw [h]; rfl
end
end
end
end
section
/-! T4: what the class's methods that read a text do (printed by wip/gen/c4.py) -/
section
variable {B : Nat → Int} {bn ps ta : Nat} {pk uv al : Int} {r : Nat → Int}
theorem s4_92 {n : Nat} {f : Nat → Int32} {d : Nat} {D i : Nat} {σ : ra_V} (hD : isD D) (hi : i < 8) : ra_C (g_Gs n f) g_sh 0 (d + 1) 92 [.index (D + 5 + i)] σ (fun r9 s => r9 = .inl (some (ra_B (0 < ra_g σ (D + 5 + i) 2))) ∧ s = σ) := by
  refine ra_enter (nn := 0) mt_92 rfl (Nat.le_of_ble_eq_true rfl) rfl (fun h => absurd h (by decide +kernel)) ?_
  refine ra_load rfl rfl rfl rfl ?_
  refine ra_getI rfl lk_5_18 (Nat.zero_le _) (sh_P hD hi) rfl ?_
  have hr1 : ra_in (ra_g σ (D + 5 + i) 2) := (ra_in_g _ _ _)
  refine ra_ifle rfl rfl hr1 (fun h2 => ?_) (fun h2 => ?_)
  · refine ra_iconst rfl ?_
    exact ra_ireturn rfl (ra_okB (Or.inl rfl)) ⟨(by unfold ra_B; rw [if_neg (by omega)]), rfl⟩
  · refine ra_iconst rfl ?_
    refine ra_goto rfl rfl ?_
    exact ra_ireturn rfl (ra_okB (Or.inr rfl)) ⟨(by unfold ra_B; rw [if_pos (by omega)]), rfl⟩
theorem s4_95 {n : Nat} {f : Nat → Int32} {d : Nat} {D i : Nat} {x0 : Int} {x1 : Int} {σ : ra_V} (hD : isD D) (hi : i < 8) (hx0 : ra_in x0) (hx1 : ra_in x1) (hb : 0 < ra_g σ (D + 5 + i) 2 → 0 ≤ ra_g σ (D + 5 + i) 1 ∧ ra_g σ (D + 5 + i) 1 + ra_g σ (D + 5 + i) 2 ≤ 600) : ra_C (g_Gs n f) g_sh 0 (d + 1) 95 [.index (D + 5 + i), ra_J x0, ra_J x1] σ (fun r9 s => r9 = .inl (some (ra_B (0 < ra_g σ (D + 5 + i) 2 ∧ ra_g σ (D + 5 + i) 1 < x0 + x1 ∧ x0 < ra_g σ (D + 5 + i) 1 + ra_g σ (D + 5 + i) 2))) ∧ s = σ) := by
  refine ra_enter (nn := 0) mt_95 rfl (Nat.le_of_ble_eq_true rfl) rfl (fun h => absurd h (by decide +kernel)) ?_
  refine ra_load rfl rfl rfl rfl ?_
  refine ra_getI rfl lk_5_18 (Nat.zero_le _) (sh_P hD hi) rfl ?_
  have hr1 : ra_in (ra_g σ (D + 5 + i) 2) := (ra_in_g _ _ _)
  refine ra_ifle rfl rfl hr1 (fun h2 => ?_) (fun h2 => ?_)
  · refine ra_iconst rfl ?_
    exact ra_ireturn rfl (ra_okB (Or.inl rfl)) ⟨(by unfold ra_B; rw [if_neg (by omega)]), rfl⟩
  · refine ra_load rfl rfl rfl rfl ?_
    refine ra_getI rfl lk_5_15 (Nat.zero_le _) (sh_P hD hi) rfl ?_
    have hr3 : ra_in (ra_g σ (D + 5 + i) 1) := (ra_in_g _ _ _)
    refine ra_i2l rfl hr3 ?_
    refine ra_load rfl rfl rfl rfl ?_
    refine ra_load rfl rfl rfl rfl ?_
    refine ra_ladd rfl ?_
    refine ra_lcmp rfl (by unfold ra_in6; first | omega | (unfold ra_in at *; omega)) (by unfold ra_in6; first | omega | (unfold ra_in at *; omega)) ?_
    refine ra_ifge rfl rfl (ra_in_cmp _ _) (fun h4 => ?_) (fun h4 => ?_)
    · rw [ra_cmp_ge] at h4
      refine ra_iconst rfl ?_
      exact ra_ireturn rfl (ra_okB (Or.inl rfl)) ⟨(by unfold ra_B; rw [if_neg (by omega)]), rfl⟩
    · rw [ra_cmp_lt] at h4
      refine ra_load rfl rfl rfl rfl ?_
      refine ra_load rfl rfl rfl rfl ?_
      refine ra_getI rfl lk_5_15 (Nat.zero_le _) (sh_P hD hi) rfl ?_
      have hr5 : ra_in (ra_g σ (D + 5 + i) 1) := (ra_in_g _ _ _)
      refine ra_load rfl rfl rfl rfl ?_
      refine ra_getI rfl lk_5_18 (Nat.zero_le _) (sh_P hD hi) rfl ?_
      have hr6 : ra_in (ra_g σ (D + 5 + i) 2) := (ra_in_g _ _ _)
      refine ra_iadd rfl ?_
      refine ra_i2l rfl (by first | omega | (unfold ra_in at *; omega)) ?_
      refine ra_lcmp rfl (by unfold ra_in6; first | omega | (unfold ra_in at *; omega)) (by unfold ra_in6; first | omega | (unfold ra_in at *; omega)) ?_
      refine ra_ifge rfl rfl (ra_in_cmp _ _) (fun h7 => ?_) (fun h7 => ?_)
      · rw [ra_cmp_ge] at h7
        refine ra_iconst rfl ?_
        exact ra_ireturn rfl (ra_okB (Or.inl rfl)) ⟨(by unfold ra_B; rw [if_neg (by omega)]), rfl⟩
      · rw [ra_cmp_lt] at h7
        refine ra_iconst rfl ?_
        refine ra_goto rfl rfl ?_
        exact ra_ireturn rfl (ra_okB (Or.inr rfl)) ⟨(by unfold ra_B; rw [if_pos (by omega)]), rfl⟩
theorem l4_4_13 {n : Nat} {f : Nat → Int32} {d : Nat} {D : Nat} {σ : ra_V} (hD : isD D) (hst : x4SZ σ D pk) : ∀ (nn : Nat) (v1 : Int) (v4 : Int) (hv1_0 : v1 = min v4 pk) (hv4_0 : 0 ≤ v4) (hv4_1 : v4 ≤ 8) (hm : ((8 - v4 : Int)).toNat < nn), ra_P (g_Gs n f) g_sh 0 (d + 1) g_m_X0_standing 13 [none, some (ra_I v1), some (.index (D + 2)), some (ra_I ((8 : Nat) : Int)), some (ra_I v4), none] [] σ (fun r9 s => r9 = .inl (some (ra_I (pk))) ∧ s = σ) := by
  intro nn
  induction nn with
  | zero => intro v1 v4 hv1_0 hv4_0 hv4_1 hm; exact absurd hm (Nat.not_lt_zero _)
  | succ nn ih =>
    intro v1 v4 hv1_0 hv4_0 hv4_1 hm
    have hst0 := hst
    obtain ⟨hs1, hs2⟩ := hst0
    have hsp := hs2 v4.toNat
    refine ra_load rfl rfl rfl rfl ?_
    refine ra_load rfl rfl rfl rfl ?_
    refine ra_icge rfl rfl (by first | omega | (unfold ra_in at *; omega)) (by first | omega | (unfold ra_in at *; omega)) (fun h1 => ?_) (fun h1 => ?_)
    · refine ra_load rfl rfl rfl rfl ?_
      exact ra_ireturn rfl rfl ⟨(congrArg (fun z => Sum.inl (some (ra_I z))) (by omega)), rfl⟩
    · refine ra_load rfl rfl rfl rfl ?_
      refine ra_load rfl rfl rfl rfl ?_
      refine ra_aaload rfl (sh_D2 hD) rfl (by decide) (by first | omega | (unfold ra_in at *; omega)) (by first | omega | (unfold ra_in at *; omega)) (sh_pt (by first | omega | (unfold ra_in at *; omega)) (by first | omega | (unfold ra_in at *; omega))) rfl ?_
      have hi2 : v4.toNat < 8 := (by first | omega | (unfold ra_in at *; omega))
      refine ra_store (L' := [_, _, _, _, _, _]) rfl rfl rfl (Nat.le_of_ble_eq_true rfl) rfl ?_
      refine ra_load rfl rfl rfl rfl ?_
      refine ra_cTp (s4_92 hD hi2) rfl (ct_92 rfl lk_0_81 (Or.inl rfl) (sh_P hD hi2) (Nat.le_of_ble_eq_true rfl)) ?_
      refine ra_ifeqB rfl rfl (fun h4 => ?_) (fun h4 => ?_)
      · refine ra_iinc (L' := [_, _, _, _, _, _]) rfl rfl (Nat.le_of_ble_eq_true rfl) rfl ?_
        refine ra_goto rfl rfl ?_
        exact ra_weak (by repeat' constructor) (ih v1 (v4 + 1) (by first | omega | (unfold ra_in at *; omega)) (by first | omega | (unfold ra_in at *; omega)) (by first | omega | (unfold ra_in at *; omega)) (by first | omega | (unfold ra_in at *; omega)))
      · refine ra_iinc (L' := [_, _, _, _, _, _]) rfl rfl (Nat.le_of_ble_eq_true rfl) rfl ?_
        refine ra_iinc (L' := [_, _, _, _, _, _]) rfl rfl (Nat.le_of_ble_eq_true rfl) rfl ?_
        refine ra_goto rfl rfl ?_
        exact ra_weak (by repeat' constructor) (ih (v1 + 1) (v4 + 1) (by first | omega | (unfold ra_in at *; omega)) (by first | omega | (unfold ra_in at *; omega)) (by first | omega | (unfold ra_in at *; omega)) (by first | omega | (unfold ra_in at *; omega)))
theorem s4_4 {n : Nat} {f : Nat → Int32} {d : Nat} {D : Nat} {σ : ra_V} (hD : isD D) (hst : x4SZ σ D pk) : ra_C (g_Gs n f) g_sh 0 (d + 2) 4 [.index (D)] σ (fun r9 s => r9 = .inl (some (ra_I (pk))) ∧ s = σ) := by
  refine ra_enter (nn := 5) mt_4 rfl (Nat.le_of_ble_eq_true rfl) rfl (fun h => absurd h (by decide +kernel)) ?_
  have hst0 := hst
  obtain ⟨hs1, hs2⟩ := hst0
  refine ra_iconst rfl ?_
  refine ra_store (L' := [_, _, _, _, _, _]) rfl rfl rfl (Nat.le_of_ble_eq_true rfl) rfl ?_
  refine ra_load rfl rfl rfl rfl ?_
  refine ra_getR rfl lk_0_17 (Nat.zero_le _) (sh_D hD) rfl ?_
  refine ra_store (L' := [_, _, _, _, _, _]) rfl rfl rfl (Nat.le_of_ble_eq_true rfl) rfl ?_
  refine ra_load rfl rfl rfl rfl ?_
  refine ra_alen rfl (sh_D2 hD) rfl ?_
  refine ra_store (L' := [_, _, _, _, _, _]) rfl rfl rfl (Nat.le_of_ble_eq_true rfl) rfl ?_
  refine ra_iconst rfl ?_
  refine ra_store (L' := [_, _, _, _, _, _]) rfl rfl rfl (Nat.le_of_ble_eq_true rfl) rfl ?_
  exact ra_weak (by repeat' constructor) (l4_4_13 hD hst _ (0) (0) (by first | omega | (unfold ra_in at *; omega)) (by first | omega | (unfold ra_in at *; omega)) (by first | omega | (unfold ra_in at *; omega)) (Nat.lt_succ_self _))
theorem s4_3 {n : Nat} {f : Nat → Int32} {d : Nat} {D : Nat} {x0 : Int} {σ : ra_V} (hD : isD D) (hx0 : ra_in x0) (hst : x4SZ σ D pk) (hj : 0 ≤ x0 ∧ x0 < pk) : ra_C (g_Gs n f) g_sh 0 (d + 2) 3 [.index (D), ra_I x0] σ (fun r9 s => r9 = .inl (some (.index (D + 5 + (x0.toNat)))) ∧ s = σ) := by
  refine ra_enter (nn := 0) mt_3 rfl (Nat.le_of_ble_eq_true rfl) rfl (fun h => absurd h (by decide +kernel)) ?_
  have hst0 := hst
  obtain ⟨hs1, hs2⟩ := hst0
  have hsp := hs2 x0.toNat (by omega)
  refine ra_load rfl rfl rfl rfl ?_
  refine ra_iflt rfl rfl hx0 (fun h1 => ?_) (fun h1 => ?_)
  · refine ra_null rfl ?_
    exact ra_areturn rfl rfl ⟨(by exfalso; omega), rfl⟩
  · refine ra_load rfl rfl rfl rfl ?_
    refine ra_load rfl rfl rfl rfl ?_
    refine ra_getR rfl lk_0_17 (Nat.zero_le _) (sh_D hD) rfl ?_
    refine ra_alen rfl (sh_D2 hD) rfl ?_
    refine ra_icge rfl rfl hx0 (by first | omega | (unfold ra_in at *; omega)) (fun h2 => ?_) (fun h2 => ?_)
    · refine ra_null rfl ?_
      exact ra_areturn rfl rfl ⟨(by exfalso; omega), rfl⟩
    · refine ra_load rfl rfl rfl rfl ?_
      refine ra_getR rfl lk_0_17 (Nat.zero_le _) (sh_D hD) rfl ?_
      refine ra_load rfl rfl rfl rfl ?_
      refine ra_aaload rfl (sh_D2 hD) rfl (by decide) (by first | omega | (unfold ra_in at *; omega)) (by first | omega | (unfold ra_in at *; omega)) (sh_pt (by first | omega | (unfold ra_in at *; omega)) (by first | omega | (unfold ra_in at *; omega))) rfl ?_
      have hi3 : x0.toNat < 8 := (by first | omega | (unfold ra_in at *; omega))
      refine ra_cTp (s4_92 hD hi3) rfl (ct_92 rfl lk_0_81 (Or.inl rfl) (sh_P hD hi3) (Nat.le_of_ble_eq_true rfl)) ?_
      refine ra_ifneB rfl rfl (fun h5 => ?_) (fun h5 => ?_)
      · refine ra_load rfl rfl rfl rfl ?_
        refine ra_getR rfl lk_0_17 (Nat.zero_le _) (sh_D hD) rfl ?_
        refine ra_load rfl rfl rfl rfl ?_
        refine ra_aaload rfl (sh_D2 hD) rfl (by decide) (by first | omega | (unfold ra_in at *; omega)) (by first | omega | (unfold ra_in at *; omega)) (sh_pt (by first | omega | (unfold ra_in at *; omega)) (by first | omega | (unfold ra_in at *; omega))) rfl ?_
        have hi6 : x0.toNat < 8 := (by first | omega | (unfold ra_in at *; omega))
        exact ra_areturn rfl rfl ⟨rfl, rfl⟩
      · refine ra_null rfl ?_
        exact ra_areturn rfl rfl ⟨(by exfalso; omega), rfl⟩
theorem s4_9 {n : Nat} {f : Nat → Int32} {d : Nat} {D : Nat} {σ : ra_V} (hD : isD D) (hu : ra_g σ (D) 4 - ra_g σ (D) 6 = uv ∧ ra_in uv) : ra_C (g_Gs n f) g_sh 0 (d + 1) 9 [.index (D)] σ (fun r9 s => r9 = .inl (some (ra_I (uv))) ∧ s = σ) := by
  refine ra_enter (nn := 0) mt_9 rfl (Nat.le_of_ble_eq_true rfl) rfl (fun h => absurd h (by decide +kernel)) ?_
  refine ra_load rfl rfl rfl rfl ?_
  refine ra_getI rfl lk_0_34 (Nat.zero_le _) (sh_D hD) rfl ?_
  have hr1 : ra_in (ra_g σ (D) 4) := (ra_in_g _ _ _)
  refine ra_load rfl rfl rfl rfl ?_
  refine ra_getI rfl lk_0_41 (Nat.zero_le _) (sh_D hD) rfl ?_
  have hr2 : ra_in (ra_g σ (D) 6) := (ra_in_g _ _ _)
  refine ra_isub rfl ?_
  exact ra_ireturn rfl rfl ⟨(congrArg (fun z => Sum.inl (some (ra_I z))) (by omega)), rfl⟩
theorem s4_11 {n : Nat} {f : Nat → Int32} {d : Nat} {D : Nat} {x0 : Int} {σ : ra_V} (hD : isD D) (hx0 : ra_in x0) (ha : ra_g σ (D) 7 = al ∧ 1 ≤ al ∧ 0 ≤ x0) : ra_C (g_Gs n f) g_sh 0 (d + 1) 11 [.index (D), ra_I x0] σ (fun r9 s => (∃ z : Int, (z = 0 ∨ z = 1) ∧ (z = 1 ↔ x0 % al = 0) ∧ r9 = .inl (some (ra_I z))) ∧ s = σ) := by
  refine ra_enter (nn := 0) mt_11 rfl (Nat.le_of_ble_eq_true rfl) rfl (fun h => absurd h (by decide +kernel)) ?_
  obtain ⟨ha0, ha1, ha2⟩ := ha
  refine ra_load rfl rfl rfl rfl ?_
  refine ra_getI rfl lk_0_44 (Nat.zero_le _) (sh_D hD) rfl ?_
  have hr1 : ra_in (ra_g σ (D) 7) := (ra_in_g _ _ _)
  refine ra_ifle rfl rfl hr1 (fun h2 => ?_) (fun h2 => ?_)
  · refine ra_iconst rfl ?_
    exact ra_ireturn rfl (ra_okB (Or.inl rfl)) ⟨⟨_, (Or.inl rfl), (by rw [← ha0]; have e := Int.tmod_eq_emod_of_nonneg (b := ra_g σ (D) 7) ha2; omega), rfl⟩, rfl⟩
  · refine ra_load rfl rfl rfl rfl ?_
    refine ra_load rfl rfl rfl rfl ?_
    refine ra_getI rfl lk_0_44 (Nat.zero_le _) (sh_D hD) rfl ?_
    have hr3 : ra_in (ra_g σ (D) 7) := (ra_in_g _ _ _)
    refine ra_irem rfl hx0 hr3 (by omega) ?_
    refine ra_ifne rfl rfl (ra_in_tmod hx0 (by omega)) (fun h4 => ?_) (fun h4 => ?_)
    · refine ra_iconst rfl ?_
      exact ra_ireturn rfl (ra_okB (Or.inl rfl)) ⟨⟨_, (Or.inl rfl), (by rw [← ha0]; have e := Int.tmod_eq_emod_of_nonneg (b := ra_g σ (D) 7) ha2; omega), rfl⟩, rfl⟩
    · refine ra_iconst rfl ?_
      refine ra_goto rfl rfl ?_
      exact ra_ireturn rfl (ra_okB (Or.inr rfl)) ⟨⟨_, (Or.inr rfl), (by rw [← ha0]; have e := Int.tmod_eq_emod_of_nonneg (b := ra_g σ (D) 7) ha2; omega), rfl⟩, rfl⟩
theorem l4_12_17 {n : Nat} {f : Nat → Int32} {d : Nat} {D : Nat} {x0 : Int} {x1 : Int} {σ : ra_V} (hD : isD D) (hx0 : ra_in x0) (hx1 : ra_in x1) (hb : x4BD σ D) : ∀ (nn : Nat) (v5 : Int) (v8 : Int) (hv5_0 : ra_in v5) (hv5_1 : v5 ≠ 0 ↔ ∃ p : Int, 0 ≤ p ∧ p < v8 ∧ x4MT σ D x0 x1 p.toNat) (hv8_0 : 0 ≤ v8) (hv8_1 : v8 ≤ 8) (hm : ((8 - v8 : Int)).toNat < nn), ra_P (g_Gs n f) g_sh 0 (d + 1) g_m_X0_meeting 17 [none, some (ra_J x0), none, some (ra_J x1), none, some (ra_I v5), some (.index (D + 2)), some (ra_I ((8 : Nat) : Int)), some (ra_I v8), none] [] σ (fun r9 s => (∃ z, ra_in z ∧ (z ≠ 0 ↔ ∃ p : Int, 0 ≤ p ∧ p < 8 ∧ x4MT σ D x0 x1 p.toNat) ∧ r9 = .inl (some (ra_I z))) ∧ s = σ) := by
  intro nn
  induction nn with
  | zero => intro v5 v8 hv5_0 hv5_1 hv8_0 hv8_1 hm; exact absurd hm (Nat.not_lt_zero _)
  | succ nn ih =>
    intro v5 v8 hv5_0 hv5_1 hv8_0 hv8_1 hm
    refine ra_load rfl rfl rfl rfl ?_
    refine ra_load rfl rfl rfl rfl ?_
    refine ra_icge rfl rfl (by first | omega | (unfold ra_in at *; omega)) (by first | omega | (unfold ra_in at *; omega)) (fun h1 => ?_) (fun h1 => ?_)
    · refine ra_load rfl rfl rfl rfl ?_
      exact ra_ireturn rfl rfl ⟨⟨_, (by first | omega | (unfold ra_in at *; omega)), (by obtain rfl : v8 = 8 := (by omega); exact hv5_1), rfl⟩, rfl⟩
    · refine ra_load rfl rfl rfl rfl ?_
      refine ra_load rfl rfl rfl rfl ?_
      refine ra_aaload rfl (sh_D2 hD) rfl (by decide) (by first | omega | (unfold ra_in at *; omega)) (by first | omega | (unfold ra_in at *; omega)) (sh_pt (by first | omega | (unfold ra_in at *; omega)) (by first | omega | (unfold ra_in at *; omega))) rfl ?_
      have hi2 : v8.toNat < 8 := (by first | omega | (unfold ra_in at *; omega))
      refine ra_store (L' := [_, _, _, _, _, _, _, _, _, _]) rfl rfl rfl (Nat.le_of_ble_eq_true rfl) rfl ?_
      refine ra_load rfl rfl rfl rfl ?_
      refine ra_load rfl rfl rfl rfl ?_
      refine ra_load rfl rfl rfl rfl ?_
      refine ra_cTp (s4_95 hD hi2 hx0 hx1 (hb v8.toNat (by omega))) rfl (ct_95 rfl lk_0_106 (Or.inl rfl) (sh_P hD hi2) (Nat.le_of_ble_eq_true rfl)) ?_
      refine ra_ifeqB rfl rfl (fun h4 => ?_) (fun h4 => ?_)
      · refine ra_iinc (L' := [_, _, _, _, _, _, _, _, _, _]) rfl rfl (Nat.le_of_ble_eq_true rfl) rfl ?_
        refine ra_goto rfl rfl ?_
        exact ra_weak (by repeat' constructor) (ih v5 (v8 + 1) (by first | omega | (unfold ra_in at *; omega)) (⟨fun q => ex_s1 (hv5_1.mp q), fun q => Classical.byContradiction (fun c => ex_s0 (fun z => c (hv5_1.mpr z)) (by first | assumption | (show ¬ x4MT σ D x0 x1 v8.toNat; assumption)) q)⟩) (by first | omega | (unfold ra_in at *; omega)) (by first | omega | (unfold ra_in at *; omega)) (by first | omega | (unfold ra_in at *; omega)))
      · refine ra_load rfl rfl rfl rfl ?_
        refine ra_iconst rfl ?_
        refine ra_load rfl rfl rfl rfl ?_
        refine ra_getK rfl lk_0_91 (Nat.zero_le _) (sh_P hD hi2) rfl ?_
        refine ra_ishl rfl ?_
        refine ra_ior rfl ?_
        refine ra_store (L' := [_, _, _, _, _, _, _, _, _, _]) rfl rfl rfl (Nat.le_of_ble_eq_true rfl) rfl ?_
        refine ra_iinc (L' := [_, _, _, _, _, _, _, _, _, _]) rfl rfl (Nat.le_of_ble_eq_true rfl) rfl ?_
        refine ra_goto rfl rfl ?_
        exact ra_weak (by repeat' constructor) (ih (ra_op .ior v5 (ra_op .ishl (1) ((v8.toNat : Nat) : Int))) (v8 + 1) (ra_in_op _ _ _) (iff_of_true (x4or_ne (by omega)) (ex_s2 hv8_0 (by first | assumption | (show x4MT σ D x0 x1 v8.toNat; assumption)))) (by first | omega | (unfold ra_in at *; omega)) (by first | omega | (unfold ra_in at *; omega)) (by first | omega | (unfold ra_in at *; omega)))
theorem s4_12 {n : Nat} {f : Nat → Int32} {d : Nat} {D : Nat} {x0 : Int} {x1 : Int} {σ : ra_V} (hD : isD D) (hx0 : ra_in x0) (hx1 : ra_in x1) (hb : x4BD σ D) : ra_C (g_Gs n f) g_sh 0 (d + 2) 12 [.index (D), ra_J x0, ra_J x1] σ (fun r9 s => (∃ z, ra_in z ∧ (z ≠ 0 ↔ ∃ p : Int, 0 ≤ p ∧ p < 8 ∧ x4MT σ D x0 x1 p.toNat) ∧ r9 = .inl (some (ra_I z))) ∧ s = σ) := by
  refine ra_enter (nn := 5) mt_12 rfl (Nat.le_of_ble_eq_true rfl) rfl (fun h => absurd h (by decide +kernel)) ?_
  refine ra_iconst rfl ?_
  refine ra_store (L' := [_, _, _, _, _, _, _, _, _, _]) rfl rfl rfl (Nat.le_of_ble_eq_true rfl) rfl ?_
  refine ra_load rfl rfl rfl rfl ?_
  refine ra_getR rfl lk_0_17 (Nat.zero_le _) (sh_D hD) rfl ?_
  refine ra_store (L' := [_, _, _, _, _, _, _, _, _, _]) rfl rfl rfl (Nat.le_of_ble_eq_true rfl) rfl ?_
  refine ra_load rfl rfl rfl rfl ?_
  refine ra_alen rfl (sh_D2 hD) rfl ?_
  refine ra_store (L' := [_, _, _, _, _, _, _, _, _, _]) rfl rfl rfl (Nat.le_of_ble_eq_true rfl) rfl ?_
  refine ra_iconst rfl ?_
  refine ra_store (L' := [_, _, _, _, _, _, _, _, _, _]) rfl rfl rfl (Nat.le_of_ble_eq_true rfl) rfl ?_
  exact ra_weak (by repeat' constructor) (l4_12_17 hD hx0 hx1 hb _ (0) (0) (by first | omega | (unfold ra_in at *; omega)) (iff_of_false (fun q => q rfl) (by rintro ⟨p, h1, h2, -⟩; omega)) (by first | omega | (unfold ra_in at *; omega)) (by first | omega | (unfold ra_in at *; omega)) (Nat.lt_succ_self _))
theorem l4_33_14 {n : Nat} {f : Nat → Int32} {d : Nat} {D : Nat} {x0 : Int} {x1 : Int} {x2 : Int} {x3 : Int} {σ : ra_V} (hD : isD D) (hx0 : ra_in x0) (hx1 : ra_in x1) (hx2 : ra_in x2) (hx3 : ra_in x3) (hst : x4SZ σ D pk) (h8 : pk < 8) : ∀ (nn : Nat) (v7 : Int) (hv7_0 : 0 ≤ v7) (hv7_1 : v7 ≤ 8) (hv7_2 : v7 ≤ pk) (hm : ((8 - v7 : Int)).toNat < nn), ra_P (g_Gs n f) g_sh 0 (d + 2) g_m_X0_make 14 [some (.index (D)), some (ra_I x0), some (ra_I x1), some (ra_I x2), some (ra_I x3), some (.index (D + 2)), some (ra_I ((8 : Nat) : Int)), some (ra_I v7), none] [] σ (fun r9 s => rI r9 ∧ Fr (D) (D + 13) σ s ∧ x4MKC σ s D pk.toNat x0 x1) := by
  intro nn
  induction nn with
  | zero => intro v7 hv7_0 hv7_1 hv7_2 hm; exact absurd hm (Nat.not_lt_zero _)
  | succ nn ih =>
    intro v7 hv7_0 hv7_1 hv7_2 hm
    have hst0 := hst
    obtain ⟨hs1, hs2⟩ := hst0
    have hsp := hs2 v7.toNat
    refine ra_load rfl rfl rfl rfl ?_
    refine ra_load rfl rfl rfl rfl ?_
    refine ra_icge rfl rfl (by first | omega | (unfold ra_in at *; omega)) (by first | omega | (unfold ra_in at *; omega)) (fun h1 => ?_) (fun h1 => ?_)
    · refine ra_iconst rfl ?_
      exact ra_ireturn rfl rfl ⟨⟨_, (by first | omega | (unfold ra_in at *; omega)), rfl⟩, (by exfalso; omega)⟩
    · refine ra_load rfl rfl rfl rfl ?_
      refine ra_load rfl rfl rfl rfl ?_
      refine ra_aaload rfl (sh_D2 hD) rfl (by decide) (by first | omega | (unfold ra_in at *; omega)) (by first | omega | (unfold ra_in at *; omega)) (sh_pt (by first | omega | (unfold ra_in at *; omega)) (by first | omega | (unfold ra_in at *; omega))) rfl ?_
      have hi2 : v7.toNat < 8 := (by first | omega | (unfold ra_in at *; omega))
      refine ra_store (L' := [_, _, _, _, _, _, _, _, _]) rfl rfl rfl (Nat.le_of_ble_eq_true rfl) rfl ?_
      refine ra_load rfl rfl rfl rfl ?_
      refine ra_cTp (s4_92 hD hi2) rfl (ct_92 rfl lk_0_81 (Or.inl rfl) (sh_P hD hi2) (Nat.le_of_ble_eq_true rfl)) ?_
      refine ra_ifneB rfl rfl (fun h4 => ?_) (fun h4 => ?_)
      · refine ra_iinc (L' := [_, _, _, _, _, _, _, _, _]) rfl rfl (Nat.le_of_ble_eq_true rfl) rfl ?_
        refine ra_goto rfl rfl ?_
        exact ra_weak (by repeat' constructor) (ih (v7 + 1) (by first | omega | (unfold ra_in at *; omega)) (by first | omega | (unfold ra_in at *; omega)) (by first | omega | (unfold ra_in at *; omega)) (by first | omega | (unfold ra_in at *; omega)))
      · refine ra_load rfl rfl rfl rfl ?_
        refine ra_load rfl rfl rfl rfl ?_
        refine ra_putI rfl lk_0_85 (Nat.zero_le _) (sh_P hD hi2) rfl rfl ?_
        refine ra_newU hx0 (fun s5 hs5 hp6 hp6o => ?_)
        have hp6_2 := hp6o 2 (by decide)
        have hp6_5 := hp6o 5 (by decide)
        have hF7 := Fr_tr (lo := D) (hi := D + 13) Fr_rf hs5 (by omega)
        refine ra_load rfl rfl rfl rfl ?_
        refine ra_load rfl rfl rfl rfl ?_
        refine ra_putI rfl lk_0_65 (Nat.zero_le _) (sh_P hD hi2) rfl rfl ?_
        refine ra_newU hx1 (fun s8 hs8 hp9 hp9o => ?_)
        have hp9_1 := hp9o 1 (by decide)
        have hp9_5 := hp9o 5 (by decide)
        have hF10 := Fr_tr (lo := D) (hi := D + 13) hF7 hs8 (by omega)
        refine ra_load rfl rfl rfl rfl ?_
        refine ra_load rfl rfl rfl rfl ?_
        refine ra_putI rfl lk_0_148 (Nat.zero_le _) (sh_P hD hi2) rfl rfl ?_
        refine ra_newU hx3 (fun s11 hs11 hp12 hp12o => ?_)
        have hp12_1 := hp12o 1 (by decide)
        have hp12_2 := hp12o 2 (by decide)
        have hp12_5 := hp12o 5 (by decide)
        have hF13 := Fr_tr (lo := D) (hi := D + 13) hF10 hs11 (by omega)
        refine ra_load rfl rfl rfl rfl ?_
        refine ra_load rfl rfl rfl rfl ?_
        refine ra_putI rfl lk_0_220 (Nat.zero_le _) (sh_P hD hi2) rfl rfl ?_
        refine ra_newU hx2 (fun s14 hs14 hp15 hp15o => ?_)
        have hp15_1 := hp15o 1 (by decide)
        have hp15_2 := hp15o 2 (by decide)
        have hp15_5 := hp15o 5 (by decide)
        have hF16 := Fr_tr (lo := D) (hi := D + 13) hF13 hs14 (by omega)
        refine ra_load rfl rfl rfl rfl ?_
        refine ra_iconst rfl ?_
        refine ra_putB rfl lk_0_94 (Nat.zero_le _) (sh_P hD hi2) rfl rfl (Or.inl rfl) ?_
        refine ra_newU (ra_in01 (Or.inl rfl)) (fun s17 hs17 hp18 hp18o => ?_)
        have hp18_1 := hp18o 1 (by decide)
        have hp18_2 := hp18o 2 (by decide)
        have hF19 := Fr_tr (lo := D) (hi := D + 13) hF16 hs17 (by omega)
        refine ra_load rfl rfl rfl rfl ?_
        refine ra_load rfl rfl rfl rfl ?_
        refine ra_getI rfl lk_0_50 (Nat.zero_le _) (sh_D hD) rfl ?_
        have hr20 : ra_in (ra_g s17 (D) 9) := (ra_in_g _ _ _)
        refine ra_putI rfl lk_0_223 (Nat.zero_le _) (sh_P hD hi2) rfl rfl ?_
        refine ra_newU hr20 (fun s21 hs21 hp22 hp22o => ?_)
        have hp22_1 := hp22o 1 (by decide)
        have hp22_2 := hp22o 2 (by decide)
        have hp22_5 := hp22o 5 (by decide)
        have hF23 := Fr_tr (lo := D) (hi := D + 13) hF19 hs21 (by omega)
        refine ra_load rfl rfl rfl rfl ?_
        refine ra_iconst rfl ?_
        refine ra_putI rfl lk_0_226 (Nat.zero_le _) (sh_P hD hi2) rfl rfl ?_
        refine ra_newU (by first | omega | (unfold ra_in at *; omega)) (fun s24 hs24 hp25 hp25o => ?_)
        have hp25_1 := hp25o 1 (by decide)
        have hp25_2 := hp25o 2 (by decide)
        have hp25_5 := hp25o 5 (by decide)
        have hF26 := Fr_tr (lo := D) (hi := D + 13) hF23 hs24 (by omega)
        refine ra_load rfl rfl rfl rfl ?_
        refine ra_dup rfl rfl ?_
        refine ra_getI rfl lk_0_50 (Nat.zero_le _) (sh_D hD) rfl ?_
        have hr27 : ra_in (ra_g s24 (D) 9) := (ra_in_g _ _ _)
        refine ra_iconst rfl ?_
        refine ra_iadd rfl ?_
        refine ra_gen (fun z28 hz28 => ?_)
        refine ra_putI rfl lk_0_50 (Nat.zero_le _) (sh_D hD) rfl rfl ?_
        refine ra_newU hz28 (fun s29 hs29 hp30 hp30o => ?_)
        have hp30_4 := hp30o 4 (by decide)
        have hp30_5 := hp30o 5 (by decide)
        have hp30_6 := hp30o 6 (by decide)
        have hp30_7 := hp30o 7 (by decide)
        have hp30_8 := hp30o 8 (by decide)
        have hF31 := Fr_tr (lo := D) (hi := D + 13) hF26 hs29 (by omega)
        have hk32 : s29 (D + 5 + v7.toNat) = s24 (D + 5 + v7.toNat) := (hs29 (D + 5 + v7.toNat) (by omega))
        refine ra_load rfl rfl rfl rfl ?_
        refine ra_load rfl rfl rfl rfl ?_
        refine ra_iconst rfl ?_
        refine ra_cV (sp_25 hD hi2 (by first | omega | (unfold ra_in at *; omega))) rfl (ct_25 rfl lk_0_229 (Or.inl rfl) (sh_D hD) (Nat.le_of_ble_eq_true rfl)) (fun s33 hs33 => ?_)
        have hF34 := Fr_tr (lo := D) (hi := D + 13) hF31 hs33 (by omega)
        have hk35 : s33 (D + 5 + v7.toNat) = s24 (D + 5 + v7.toNat) := (hs33 (D + 5 + v7.toNat) (by omega)).trans hk32
        have hk36 : s33 (D) = s29 (D) := (hs33 (D) (by omega))
        refine ra_load rfl rfl rfl rfl ?_
        refine ra_getK rfl lk_0_91 (Nat.zero_le _) (sh_P hD hi2) rfl ?_
        exact ra_ireturn rfl rfl ⟨⟨_, (by first | omega | (unfold ra_in at *; omega)), rfl⟩, ⟨hF34, (by rw [show pk.toNat = v7.toNat by omega]; exact ⟨fun j j1 j2 => ((ra_gk (hs33 (D) (by omega))).trans ((hp30o j (by omega)).trans ((ra_gk (hs24 (D) (by omega))).trans ((ra_gk (hs21 (D) (by omega))).trans ((ra_gk (hs17 (D) (by omega))).trans ((ra_gk (hs14 (D) (by omega))).trans ((ra_gk (hs11 (D) (by omega))).trans ((ra_gk (hs8 (D) (by omega))).trans (ra_gk (hs5 (D) (by omega))))))))))), fun p p0 p1 => ((hs33 (D + 5 + p) (by omega)).trans ((hs29 (D + 5 + p) (by omega)).trans ((hs24 (D + 5 + p) (by omega)).trans ((hs21 (D + 5 + p) (by omega)).trans ((hs17 (D + 5 + p) (by omega)).trans ((hs14 (D + 5 + p) (by omega)).trans ((hs11 (D + 5 + p) (by omega)).trans ((hs8 (D + 5 + p) (by omega)).trans (hs5 (D + 5 + p) (by omega)))))))))), (ra_gk hk35).trans (by omega), (ra_gk hk35).trans (by omega), (ra_gk hk35).trans (by omega)⟩)⟩⟩
theorem s4_33 {n : Nat} {f : Nat → Int32} {d : Nat} {D : Nat} {x0 : Int} {x1 : Int} {x2 : Int} {x3 : Int} {σ : ra_V} (hD : isD D) (hx0 : ra_in x0) (hx1 : ra_in x1) (hx2 : ra_in x2) (hx3 : ra_in x3) (hst : x4SZ σ D pk) (h8 : pk < 8) : ra_C (g_Gs n f) g_sh 0 (d + 3) 33 [.index (D), ra_I x0, ra_I x1, ra_I x2, ra_I x3] σ (fun r9 s => rI r9 ∧ Fr (D) (D + 13) σ s ∧ x4MKC σ s D pk.toNat x0 x1) := by
  refine ra_enter (nn := 4) mt_33 rfl (Nat.le_of_ble_eq_true rfl) rfl (fun h => absurd h (by decide +kernel)) ?_
  have hst0 := hst
  obtain ⟨hs1, hs2⟩ := hst0
  refine ra_load rfl rfl rfl rfl ?_
  refine ra_getR rfl lk_0_17 (Nat.zero_le _) (sh_D hD) rfl ?_
  refine ra_store (L' := [_, _, _, _, _, _, _, _, _]) rfl rfl rfl (Nat.le_of_ble_eq_true rfl) rfl ?_
  refine ra_load rfl rfl rfl rfl ?_
  refine ra_alen rfl (sh_D2 hD) rfl ?_
  refine ra_store (L' := [_, _, _, _, _, _, _, _, _]) rfl rfl rfl (Nat.le_of_ble_eq_true rfl) rfl ?_
  refine ra_iconst rfl ?_
  refine ra_store (L' := [_, _, _, _, _, _, _, _, _]) rfl rfl rfl (Nat.le_of_ble_eq_true rfl) rfl ?_
  exact ra_weak (by repeat' constructor) (l4_33_14 hD hx0 hx1 hx2 hx3 hst h8 _ (0) (by first | omega | (unfold ra_in at *; omega)) (by first | omega | (unfold ra_in at *; omega)) (by first | omega | (unfold ra_in at *; omega)) (Nat.lt_succ_self _))
theorem l4_1_89 {n : Nat} {f : Nat → Int32} {d : Nat} {D : Nat} {x0 : Int} {σ : ra_V} (hD : isD D) (hx0 : ra_in x0) : ∀ (nn : Nat) (v2 : Int) (s : ra_V) (hv2_0 : 0 ≤ v2) (hv2_1 : v2 ≤ 600) (hF : Fr (D) (D + 13) σ s) (hv : ra_g s (D) 4 = x0 ∧ ra_g s (D) 5 = 0 ∧ ra_g s (D) 6 = 0 ∧ ra_g s (D) 7 = 1 ∧ ra_g s (D) 8 = 4) (hz : ∀ p : Nat, p < 8 → ra_g s (D + 5 + p) 2 = 0) (hm : ((600 - v2 : Int)).toNat < nn), ra_P (g_Gs n f) g_sh 0 (d + 1) g_m_X0_clear 89 [some (.index (D)), none, some (ra_I v2), none, none, none] [] s (fun r9 s => rV r9 ∧ Fr (D) (D + 13) σ s ∧ (ra_g s (D) 4 = x0 ∧ ra_g s (D) 5 = 0 ∧ ra_g s (D) 6 = 0 ∧ ra_g s (D) 7 = 1 ∧ ra_g s (D) 8 = 4) ∧ ∀ p : Nat, p < 8 → ra_g s (D + 5 + p) 2 = 0) := by
  intro nn
  induction nn with
  | zero => intro v2 s hv2_0 hv2_1 hF hv hz hm; exact absurd hm (Nat.not_lt_zero _)
  | succ nn ih =>
    intro v2 s hv2_0 hv2_1 hF hv hz hm
    refine ra_load rfl rfl rfl rfl ?_
    refine ra_load rfl rfl rfl rfl ?_
    refine ra_getR rfl lk_0_9 (Nat.zero_le _) (sh_D hD) rfl ?_
    refine ra_alen rfl (sh_D1 hD) rfl ?_
    refine ra_icge rfl rfl (by first | omega | (unfold ra_in at *; omega)) (by first | omega | (unfold ra_in at *; omega)) (fun h32 => ?_) (fun h32 => ?_)
    · exact ra_return rfl rfl ⟨rfl, ⟨hF, (by omega), hz⟩⟩
    · refine ra_load rfl rfl rfl rfl ?_
      refine ra_getR rfl lk_0_9 (Nat.zero_le _) (sh_D hD) rfl ?_
      refine ra_load rfl rfl rfl rfl ?_
      refine ra_iconst rfl ?_
      refine ra_iastore rfl (sh_D1 hD) rfl (by decide) (by first | omega | (unfold ra_in at *; omega)) (by first | omega | (unfold ra_in at *; omega)) ?_
      refine ra_new Fr_up (fun s33 hs33 => ?_)
      have hF34 := Fr_tr (lo := D) (hi := D + 13) hF hs33 (by omega)
      have hk35 : s33 (D) = s (D) := (hs33 (D) (by omega))
      refine ra_iinc (L' := [_, _, _, _, _, _]) rfl rfl (Nat.le_of_ble_eq_true rfl) rfl ?_
      refine ra_goto rfl rfl ?_
      exact ra_weak (by repeat' constructor) (ih (v2 + 1) s33 (by first | omega | (unfold ra_in at *; omega)) (by first | omega | (unfold ra_in at *; omega)) hF34 (⟨(ra_gk hk35).trans (by omega), (ra_gk hk35).trans (by omega), (ra_gk hk35).trans (by omega), (ra_gk hk35).trans (by omega), (ra_gk hk35).trans (by omega)⟩) (fun p hp => (ra_gk (hs33 (D + 5 + p) (by omega))).trans (hz p hp)) (by first | omega | (unfold ra_in at *; omega)))
theorem l4_1_63 {n : Nat} {f : Nat → Int32} {d : Nat} {D : Nat} {x0 : Int} {σ : ra_V} (hD : isD D) (hx0 : ra_in x0) : ∀ (nn : Nat) (v4 : Int) (s : ra_V) (hv4_0 : 0 ≤ v4) (hv4_1 : v4 ≤ 8) (hF : Fr (D) (D + 13) σ s) (hv : ra_g s (D) 4 = x0 ∧ ra_g s (D) 5 = 0 ∧ ra_g s (D) 6 = 0 ∧ ra_g s (D) 7 = 1 ∧ ra_g s (D) 8 = 4) (hz : ∀ p : Nat, (p : Int) < v4 → ra_g s (D + 5 + p) 2 = 0) (hm : ((8 - v4 : Int)).toNat < nn), ra_P (g_Gs n f) g_sh 0 (d + 1) g_m_X0_clear 63 [some (.index (D)), none, some (.index (D + 2)), some (ra_I ((8 : Nat) : Int)), some (ra_I v4), none] [] s (fun r9 s => rV r9 ∧ Fr (D) (D + 13) σ s ∧ (ra_g s (D) 4 = x0 ∧ ra_g s (D) 5 = 0 ∧ ra_g s (D) 6 = 0 ∧ ra_g s (D) 7 = 1 ∧ ra_g s (D) 8 = 4) ∧ ∀ p : Nat, p < 8 → ra_g s (D + 5 + p) 2 = 0) := by
  intro nn
  induction nn with
  | zero => intro v4 s hv4_0 hv4_1 hF hv hz hm; exact absurd hm (Nat.not_lt_zero _)
  | succ nn ih =>
    intro v4 s hv4_0 hv4_1 hF hv hz hm
    refine ra_load rfl rfl rfl rfl ?_
    refine ra_load rfl rfl rfl rfl ?_
    refine ra_icge rfl rfl (by first | omega | (unfold ra_in at *; omega)) (by first | omega | (unfold ra_in at *; omega)) (fun h31 => ?_) (fun h31 => ?_)
    · refine ra_iconst rfl ?_
      refine ra_store (L' := [_, _, _, _, _, _]) rfl rfl rfl (Nat.le_of_ble_eq_true rfl) rfl ?_
      exact ra_weak (by repeat' constructor) (l4_1_89 hD hx0 _ (0) s (by first | omega | (unfold ra_in at *; omega)) (by first | omega | (unfold ra_in at *; omega)) hF (by omega) (fun p hp => hz p (by omega)) (Nat.lt_succ_self _))
    · refine ra_load rfl rfl rfl rfl ?_
      refine ra_load rfl rfl rfl rfl ?_
      refine ra_aaload rfl (sh_D2 hD) rfl (by decide) (by first | omega | (unfold ra_in at *; omega)) (by first | omega | (unfold ra_in at *; omega)) (sh_pt (by first | omega | (unfold ra_in at *; omega)) (by first | omega | (unfold ra_in at *; omega))) rfl ?_
      have hi36 : v4.toNat < 8 := (by first | omega | (unfold ra_in at *; omega))
      refine ra_store (L' := [_, _, _, _, _, _]) rfl rfl rfl (Nat.le_of_ble_eq_true rfl) rfl ?_
      refine ra_load rfl rfl rfl rfl ?_
      refine ra_iconst rfl ?_
      refine ra_putI rfl lk_0_65 (Nat.zero_le _) (sh_P hD hi36) rfl rfl ?_
      refine ra_newU (by first | omega | (unfold ra_in at *; omega)) (fun s37 hs37 hp38 hp38o => ?_)
      have hF39 := Fr_tr (lo := D) (hi := D + 13) hF hs37 (by omega)
      have hk40 : s37 (D) = s (D) := (hs37 (D) (by omega))
      refine ra_iinc (L' := [_, _, _, _, _, _]) rfl rfl (Nat.le_of_ble_eq_true rfl) rfl ?_
      refine ra_goto rfl rfl ?_
      exact ra_weak (by repeat' constructor) (ih (v4 + 1) s37 (by first | omega | (unfold ra_in at *; omega)) (by first | omega | (unfold ra_in at *; omega)) hF39 (⟨(ra_gk hk40).trans (by omega), (ra_gk hk40).trans (by omega), (ra_gk hk40).trans (by omega), (ra_gk hk40).trans (by omega), (ra_gk hk40).trans (by omega)⟩) (fun p hp => if e : p = v4.toNat then (by rw [e]; exact hp38) else (ra_gk (hs37 (D + 5 + p) (by omega))).trans (hz p (by omega))) (by first | omega | (unfold ra_in at *; omega)))
theorem s4_1 {n : Nat} {f : Nat → Int32} {d : Nat} {D : Nat} {x0 : Int} {σ : ra_V} (hD : isD D) (hx0 : ra_in x0) : ra_C (g_Gs n f) g_sh 0 (d + 2) 1 [.index (D), ra_I x0] σ (fun r9 s => rV r9 ∧ Fr (D) (D + 13) σ s ∧ (ra_g s (D) 4 = x0 ∧ ra_g s (D) 5 = 0 ∧ ra_g s (D) 6 = 0 ∧ ra_g s (D) 7 = 1 ∧ ra_g s (D) 8 = 4) ∧ ∀ p : Nat, p < 8 → ra_g s (D + 5 + p) 2 = 0) := by
  refine ra_enter (nn := 4) mt_1 rfl (Nat.le_of_ble_eq_true rfl) rfl (fun h => absurd h (by decide +kernel)) ?_
  refine ra_load rfl rfl rfl rfl ?_
  refine ra_load rfl rfl rfl rfl ?_
  refine ra_putI rfl lk_0_34 (Nat.zero_le _) (sh_D hD) rfl rfl ?_
  refine ra_newU hx0 (fun s1 hs1 hp2 hp2o => ?_)
  have hp2_5 := hp2o 5 (by decide)
  have hp2_6 := hp2o 6 (by decide)
  have hp2_7 := hp2o 7 (by decide)
  have hp2_8 := hp2o 8 (by decide)
  have hF3 := Fr_tr (lo := D) (hi := D + 13) Fr_rf hs1 (by omega)
  refine ra_load rfl rfl rfl rfl ?_
  refine ra_iconst rfl ?_
  refine ra_putI rfl lk_0_38 (Nat.zero_le _) (sh_D hD) rfl rfl ?_
  refine ra_newU (by first | omega | (unfold ra_in at *; omega)) (fun s4 hs4 hp5 hp5o => ?_)
  have hp5_4 := hp5o 4 (by decide)
  have hp5_6 := hp5o 6 (by decide)
  have hp5_7 := hp5o 7 (by decide)
  have hp5_8 := hp5o 8 (by decide)
  have hF6 := Fr_tr (lo := D) (hi := D + 13) hF3 hs4 (by omega)
  refine ra_load rfl rfl rfl rfl ?_
  refine ra_iconst rfl ?_
  refine ra_putI rfl lk_0_41 (Nat.zero_le _) (sh_D hD) rfl rfl ?_
  refine ra_newU (by first | omega | (unfold ra_in at *; omega)) (fun s7 hs7 hp8 hp8o => ?_)
  have hp8_4 := hp8o 4 (by decide)
  have hp8_5 := hp8o 5 (by decide)
  have hp8_7 := hp8o 7 (by decide)
  have hp8_8 := hp8o 8 (by decide)
  have hF9 := Fr_tr (lo := D) (hi := D + 13) hF6 hs7 (by omega)
  refine ra_load rfl rfl rfl rfl ?_
  refine ra_iconst rfl ?_
  refine ra_putI rfl lk_0_44 (Nat.zero_le _) (sh_D hD) rfl rfl ?_
  refine ra_newU (by first | omega | (unfold ra_in at *; omega)) (fun s10 hs10 hp11 hp11o => ?_)
  have hp11_4 := hp11o 4 (by decide)
  have hp11_5 := hp11o 5 (by decide)
  have hp11_6 := hp11o 6 (by decide)
  have hp11_8 := hp11o 8 (by decide)
  have hF12 := Fr_tr (lo := D) (hi := D + 13) hF9 hs10 (by omega)
  refine ra_load rfl rfl rfl rfl ?_
  refine ra_iconst rfl ?_
  refine ra_putI rfl lk_0_47 (Nat.zero_le _) (sh_D hD) rfl rfl ?_
  refine ra_newU (by first | omega | (unfold ra_in at *; omega)) (fun s13 hs13 hp14 hp14o => ?_)
  have hp14_4 := hp14o 4 (by decide)
  have hp14_5 := hp14o 5 (by decide)
  have hp14_6 := hp14o 6 (by decide)
  have hp14_7 := hp14o 7 (by decide)
  have hF15 := Fr_tr (lo := D) (hi := D + 13) hF12 hs13 (by omega)
  refine ra_load rfl rfl rfl rfl ?_
  refine ra_iconst rfl ?_
  refine ra_putI rfl lk_0_50 (Nat.zero_le _) (sh_D hD) rfl rfl ?_
  refine ra_newU (by first | omega | (unfold ra_in at *; omega)) (fun s16 hs16 hp17 hp17o => ?_)
  have hp17_4 := hp17o 4 (by decide)
  have hp17_5 := hp17o 5 (by decide)
  have hp17_6 := hp17o 6 (by decide)
  have hp17_7 := hp17o 7 (by decide)
  have hp17_8 := hp17o 8 (by decide)
  have hF18 := Fr_tr (lo := D) (hi := D + 13) hF15 hs16 (by omega)
  refine ra_load rfl rfl rfl rfl ?_
  refine ra_iconst rfl ?_
  refine ra_putI rfl lk_0_53 (Nat.zero_le _) (sh_D hD) rfl rfl ?_
  refine ra_newU (by first | omega | (unfold ra_in at *; omega)) (fun s19 hs19 hp20 hp20o => ?_)
  have hp20_4 := hp20o 4 (by decide)
  have hp20_5 := hp20o 5 (by decide)
  have hp20_6 := hp20o 6 (by decide)
  have hp20_7 := hp20o 7 (by decide)
  have hp20_8 := hp20o 8 (by decide)
  have hF21 := Fr_tr (lo := D) (hi := D + 13) hF18 hs19 (by omega)
  refine ra_load rfl rfl rfl rfl ?_
  refine ra_iconst rfl ?_
  refine ra_putI rfl lk_0_56 (Nat.zero_le _) (sh_D hD) rfl rfl ?_
  refine ra_newU (by first | omega | (unfold ra_in at *; omega)) (fun s22 hs22 hp23 hp23o => ?_)
  have hp23_4 := hp23o 4 (by decide)
  have hp23_5 := hp23o 5 (by decide)
  have hp23_6 := hp23o 6 (by decide)
  have hp23_7 := hp23o 7 (by decide)
  have hp23_8 := hp23o 8 (by decide)
  have hF24 := Fr_tr (lo := D) (hi := D + 13) hF21 hs22 (by omega)
  refine ra_load rfl rfl rfl rfl ?_
  refine ra_iconst rfl ?_
  refine ra_putI rfl lk_0_59 (Nat.zero_le _) (sh_D hD) rfl rfl ?_
  refine ra_newU (by first | omega | (unfold ra_in at *; omega)) (fun s25 hs25 hp26 hp26o => ?_)
  have hp26_4 := hp26o 4 (by decide)
  have hp26_5 := hp26o 5 (by decide)
  have hp26_6 := hp26o 6 (by decide)
  have hp26_7 := hp26o 7 (by decide)
  have hp26_8 := hp26o 8 (by decide)
  have hF27 := Fr_tr (lo := D) (hi := D + 13) hF24 hs25 (by omega)
  refine ra_load rfl rfl rfl rfl ?_
  refine ra_getR rfl lk_0_24 (Nat.zero_le _) (sh_D hD) rfl ?_
  refine ra_cV (sp_68 hD) rfl (ct_68 rfl lk_0_62 (Or.inl rfl) (sh_D3 hD) (Nat.le_of_ble_eq_true rfl)) (fun s28 hs28 => ?_)
  have hF29 := Fr_tr (lo := D) (hi := D + 13) hF27 hs28 (by omega)
  have hk30 : s28 (D) = s25 (D) := (hs28 (D) (by omega))
  refine ra_load rfl rfl rfl rfl ?_
  refine ra_getR rfl lk_0_17 (Nat.zero_le _) (sh_D hD) rfl ?_
  refine ra_store (L' := [_, _, _, _, _, _]) rfl rfl rfl (Nat.le_of_ble_eq_true rfl) rfl ?_
  refine ra_load rfl rfl rfl rfl ?_
  refine ra_alen rfl (sh_D2 hD) rfl ?_
  refine ra_store (L' := [_, _, _, _, _, _]) rfl rfl rfl (Nat.le_of_ble_eq_true rfl) rfl ?_
  refine ra_iconst rfl ?_
  refine ra_store (L' := [_, _, _, _, _, _]) rfl rfl rfl (Nat.le_of_ble_eq_true rfl) rfl ?_
  exact ra_weak (by repeat' constructor) (l4_1_63 hD hx0 _ (0) s28 (by first | omega | (unfold ra_in at *; omega)) (by first | omega | (unfold ra_in at *; omega)) hF29 (⟨(ra_gk hk30).trans (by omega), (ra_gk hk30).trans (by omega), (ra_gk hk30).trans (by omega), (ra_gk hk30).trans (by omega), (ra_gk hk30).trans (by omega)⟩) (fun p hp => by omega) (Nat.lt_succ_self _))
theorem s4_91 {n : Nat} {f : Nat → Int32} {d : Nat} {D i : Nat} {E0 i0 : Nat} {σ : ra_V} (hD : isD D) (hi : i < 8) (hE0 : isD E0) (hi0 : i0 < 8) (hne : D + 5 + i ≠ E0 + 5 + i0) : ra_C (g_Gs n f) g_sh 0 (d + 1) 91 [.index (D + 5 + i), .index (E0 + 5 + i0)] σ (fun r9 s => rV r9 ∧ Fr (D + 5 + i) (D + 5 + i + 1) σ s ∧ ra_g s (D + 5 + i) 2 = ra_g σ (E0 + 5 + i0) 2) := by
  refine ra_enter (nn := 0) mt_91 rfl (Nat.le_of_ble_eq_true rfl) rfl (fun h => absurd h (by decide +kernel)) ?_
  refine ra_load rfl rfl rfl rfl ?_
  refine ra_load rfl rfl rfl rfl ?_
  refine ra_getI rfl lk_5_15 (Nat.zero_le _) (sh_P hE0 hi0) rfl ?_
  have hr1 : ra_in (ra_g σ (E0 + 5 + i0) 1) := (ra_in_g _ _ _)
  refine ra_putI rfl lk_5_15 (Nat.zero_le _) (sh_P hD hi) rfl rfl ?_
  refine ra_newU hr1 (fun s2 hs2 hp3 hp3o => ?_)
  have hp3_2 := hp3o 2 (by decide)
  have hF4 := Fr_tr (lo := D + 5 + i) (hi := D + 5 + i + 1) Fr_rf hs2 (by omega)
  have hk5 : s2 (E0 + 5 + i0) = σ (E0 + 5 + i0) := (hs2 (E0 + 5 + i0) (by omega))
  refine ra_load rfl rfl rfl rfl ?_
  refine ra_load rfl rfl rfl rfl ?_
  refine ra_getI rfl lk_5_18 (Nat.zero_le _) (sh_P hE0 hi0) rfl ?_
  rw [ra_gk hk5]
  have hr6 : ra_in (ra_g σ (E0 + 5 + i0) 2) := (ra_in_g _ _ _)
  refine ra_putI rfl lk_5_18 (Nat.zero_le _) (sh_P hD hi) rfl rfl ?_
  refine ra_newU hr6 (fun s7 hs7 hp8 hp8o => ?_)
  have hF9 := Fr_tr (lo := D + 5 + i) (hi := D + 5 + i + 1) hF4 hs7 (by omega)
  have hk10 : s7 (E0 + 5 + i0) = σ (E0 + 5 + i0) := (hs7 (E0 + 5 + i0) (by omega)).trans hk5
  refine ra_load rfl rfl rfl rfl ?_
  refine ra_load rfl rfl rfl rfl ?_
  refine ra_getI rfl lk_5_21 (Nat.zero_le _) (sh_P hE0 hi0) rfl ?_
  rw [ra_gk hk10]
  have hr11 : ra_in (ra_g σ (E0 + 5 + i0) 3) := (ra_in_g _ _ _)
  refine ra_putI rfl lk_5_21 (Nat.zero_le _) (sh_P hD hi) rfl rfl ?_
  refine ra_newU hr11 (fun s12 hs12 hp13 hp13o => ?_)
  have hp13_2 := hp13o 2 (by decide)
  have hF14 := Fr_tr (lo := D + 5 + i) (hi := D + 5 + i + 1) hF9 hs12 (by omega)
  have hk15 : s12 (E0 + 5 + i0) = σ (E0 + 5 + i0) := (hs12 (E0 + 5 + i0) (by omega)).trans hk10
  refine ra_load rfl rfl rfl rfl ?_
  refine ra_load rfl rfl rfl rfl ?_
  refine ra_getI rfl lk_5_24 (Nat.zero_le _) (sh_P hE0 hi0) rfl ?_
  rw [ra_gk hk15]
  have hr16 : ra_in (ra_g σ (E0 + 5 + i0) 4) := (ra_in_g _ _ _)
  refine ra_putI rfl lk_5_24 (Nat.zero_le _) (sh_P hD hi) rfl rfl ?_
  refine ra_newU hr16 (fun s17 hs17 hp18 hp18o => ?_)
  have hp18_2 := hp18o 2 (by decide)
  have hF19 := Fr_tr (lo := D + 5 + i) (hi := D + 5 + i + 1) hF14 hs17 (by omega)
  have hk20 : s17 (E0 + 5 + i0) = σ (E0 + 5 + i0) := (hs17 (E0 + 5 + i0) (by omega)).trans hk15
  refine ra_load rfl rfl rfl rfl ?_
  refine ra_load rfl rfl rfl rfl ?_
  refine ra_getBw rfl lk_5_27 (Nat.zero_le _) (sh_P hE0 hi0) rfl (fun z21 hz21 => ?_)
  refine ra_putB rfl lk_5_27 (Nat.zero_le _) (sh_P hD hi) rfl rfl hz21 ?_
  refine ra_newU (ra_in01 hz21) (fun s22 hs22 hp23 hp23o => ?_)
  have hp23_2 := hp23o 2 (by decide)
  have hF24 := Fr_tr (lo := D + 5 + i) (hi := D + 5 + i + 1) hF19 hs22 (by omega)
  have hk25 : s22 (E0 + 5 + i0) = σ (E0 + 5 + i0) := (hs22 (E0 + 5 + i0) (by omega)).trans hk20
  refine ra_load rfl rfl rfl rfl ?_
  refine ra_load rfl rfl rfl rfl ?_
  refine ra_getI rfl lk_5_31 (Nat.zero_le _) (sh_P hE0 hi0) rfl ?_
  rw [ra_gk hk25]
  have hr26 : ra_in (ra_g σ (E0 + 5 + i0) 6) := (ra_in_g _ _ _)
  refine ra_putI rfl lk_5_31 (Nat.zero_le _) (sh_P hD hi) rfl rfl ?_
  refine ra_newU hr26 (fun s27 hs27 hp28 hp28o => ?_)
  have hp28_2 := hp28o 2 (by decide)
  have hF29 := Fr_tr (lo := D + 5 + i) (hi := D + 5 + i + 1) hF24 hs27 (by omega)
  have hk30 : s27 (E0 + 5 + i0) = σ (E0 + 5 + i0) := (hs27 (E0 + 5 + i0) (by omega)).trans hk25
  refine ra_load rfl rfl rfl rfl ?_
  refine ra_load rfl rfl rfl rfl ?_
  refine ra_getI rfl lk_5_34 (Nat.zero_le _) (sh_P hE0 hi0) rfl ?_
  rw [ra_gk hk30]
  have hr31 : ra_in (ra_g σ (E0 + 5 + i0) 7) := (ra_in_g _ _ _)
  refine ra_putI rfl lk_5_34 (Nat.zero_le _) (sh_P hD hi) rfl rfl ?_
  refine ra_newU hr31 (fun s32 hs32 hp33 hp33o => ?_)
  have hp33_2 := hp33o 2 (by decide)
  have hF34 := Fr_tr (lo := D + 5 + i) (hi := D + 5 + i + 1) hF29 hs32 (by omega)
  have hk35 : s32 (E0 + 5 + i0) = σ (E0 + 5 + i0) := (hs32 (E0 + 5 + i0) (by omega)).trans hk30
  exact ra_return rfl rfl ⟨rfl, ⟨hF34, by omega⟩⟩
theorem l4_2_85 {n : Nat} {f : Nat → Int32} {d : Nat} {D : Nat} {E0 : Nat} {σ : ra_V} (hD : isD D) (hE0 : isD E0) (hDE : D = 1 ∧ E0 = 14) : ∀ (nn : Nat) (v2 : Int) (s : ra_V) (hv2_0 : 0 ≤ v2) (hv2_1 : v2 ≤ 8) (hF : Fr (D) (D + 13) σ s) (hz : ∀ p : Nat, (p : Int) < v2 → ra_g s (D + 5 + p) 2 = ra_g σ (E0 + 5 + p) 2) (hm : ((8 - v2 : Int)).toNat < nn), ra_P (g_Gs n f) g_sh 0 (d + 1) g_m_X0_copyFrom 85 [some (.index (D)), some (.index (E0)), some (ra_I v2)] [] s (fun r9 s => rV r9 ∧ Fr (D) (D + 13) σ s ∧ ∀ p : Nat, p < 8 → ra_g s (D + 5 + p) 2 = ra_g σ (E0 + 5 + p) 2) := by
  intro nn
  induction nn with
  | zero => intro v2 s hv2_0 hv2_1 hF hz hm; exact absurd hm (Nat.not_lt_zero _)
  | succ nn ih =>
    intro v2 s hv2_0 hv2_1 hF hz hm
    refine ra_load rfl rfl rfl rfl ?_
    refine ra_bipush rfl (by decide) ?_
    refine ra_icge rfl rfl (by first | omega | (unfold ra_in at *; omega)) (by first | omega | (unfold ra_in at *; omega)) (fun h30 => ?_) (fun h30 => ?_)
    · refine ra_load rfl rfl rfl rfl ?_
      refine ra_getR rfl lk_0_9 (Nat.zero_le _) (sh_D hE0) rfl ?_
      refine ra_iconst rfl ?_
      refine ra_load rfl rfl rfl rfl ?_
      refine ra_getR rfl lk_0_9 (Nat.zero_le _) (sh_D hD) rfl ?_
      refine ra_iconst rfl ?_
      refine ra_sipush rfl (by decide) ?_
      refine ra_acopy rfl lk_0_75 (sh_D1 hE0) (sh_D1 hD) rfl (by decide) (by decide) rfl rfl (Nat.le_of_ble_eq_true rfl) ?_
      refine ra_new Fr_cpy (fun s31 hs31 => ?_)
      have hF32 := Fr_tr (lo := D) (hi := D + 13) hF hs31 (by omega)
      exact ra_return rfl rfl ⟨rfl, ⟨hF32, fun p hp => (ra_gk (hs31 (D + 5 + p) (by omega))).trans (hz p (by omega))⟩⟩
    · refine ra_load rfl rfl rfl rfl ?_
      refine ra_getR rfl lk_0_17 (Nat.zero_le _) (sh_D hD) rfl ?_
      refine ra_load rfl rfl rfl rfl ?_
      refine ra_aaload rfl (sh_D2 hD) rfl (by decide) (by first | omega | (unfold ra_in at *; omega)) (by first | omega | (unfold ra_in at *; omega)) (sh_pt (by first | omega | (unfold ra_in at *; omega)) (by first | omega | (unfold ra_in at *; omega))) rfl ?_
      have hi33 : v2.toNat < 8 := (by first | omega | (unfold ra_in at *; omega))
      refine ra_load rfl rfl rfl rfl ?_
      refine ra_getR rfl lk_0_17 (Nat.zero_le _) (sh_D hE0) rfl ?_
      refine ra_load rfl rfl rfl rfl ?_
      refine ra_aaload rfl (sh_D2 hE0) rfl (by decide) (by first | omega | (unfold ra_in at *; omega)) (by first | omega | (unfold ra_in at *; omega)) (sh_pt (by first | omega | (unfold ra_in at *; omega)) (by first | omega | (unfold ra_in at *; omega))) rfl ?_
      have hi34 : v2.toNat < 8 := (by first | omega | (unfold ra_in at *; omega))
      refine ra_cV (s4_91 hD hi33 hE0 hi34 (by omega)) rfl (ct_91 rfl lk_0_72 (Or.inl rfl) (sh_P hD hi33) (Nat.le_of_ble_eq_true rfl)) (fun s35 hs35 => ?_)
      obtain ⟨hf36, he37⟩ := hs35
      have hF38 := Fr_tr (lo := D) (hi := D + 13) hF hf36 (by omega)
      refine ra_iinc (L' := [_, _, _]) rfl rfl (Nat.le_of_ble_eq_true rfl) rfl ?_
      refine ra_goto rfl rfl ?_
      exact ra_weak (by repeat' constructor) (ih (v2 + 1) s35 (by first | omega | (unfold ra_in at *; omega)) (by first | omega | (unfold ra_in at *; omega)) hF38 (fun p hp => if e : p = v2.toNat then (by rw [e]; exact he37.trans (ra_gk (hF (E0 + 5 + v2.toNat) (by omega)))) else (ra_gk (hf36 (D + 5 + p) (by omega))).trans (hz p (by omega))) (by first | omega | (unfold ra_in at *; omega)))
theorem s4_2 {n : Nat} {f : Nat → Int32} {d : Nat} {D : Nat} {E0 : Nat} {σ : ra_V} (hD : isD D) (hE0 : isD E0) (hDE : D = 1 ∧ E0 = 14) : ra_C (g_Gs n f) g_sh 0 (d + 2) 2 [.index (D), .index (E0)] σ (fun r9 s => rV r9 ∧ Fr (D) (D + 13) σ s ∧ ∀ p : Nat, p < 8 → ra_g s (D + 5 + p) 2 = ra_g σ (E0 + 5 + p) 2) := by
  refine ra_enter (nn := 1) mt_2 rfl (Nat.le_of_ble_eq_true rfl) rfl (fun h => absurd h (by decide +kernel)) ?_
  refine ra_load rfl rfl rfl rfl ?_
  refine ra_load rfl rfl rfl rfl ?_
  refine ra_getI rfl lk_0_34 (Nat.zero_le _) (sh_D hE0) rfl ?_
  have hr1 : ra_in (ra_g σ (E0) 4) := (ra_in_g _ _ _)
  refine ra_putI rfl lk_0_34 (Nat.zero_le _) (sh_D hD) rfl rfl ?_
  refine ra_new Fr_up (fun s2 hs2 => ?_)
  have hF3 := Fr_tr (lo := D) (hi := D + 13) Fr_rf hs2 (by omega)
  refine ra_load rfl rfl rfl rfl ?_
  refine ra_load rfl rfl rfl rfl ?_
  refine ra_getI rfl lk_0_38 (Nat.zero_le _) (sh_D hE0) rfl ?_
  have hr4 : ra_in (ra_g s2 (E0) 5) := (ra_in_g _ _ _)
  refine ra_putI rfl lk_0_38 (Nat.zero_le _) (sh_D hD) rfl rfl ?_
  refine ra_new Fr_up (fun s5 hs5 => ?_)
  have hF6 := Fr_tr (lo := D) (hi := D + 13) hF3 hs5 (by omega)
  refine ra_load rfl rfl rfl rfl ?_
  refine ra_load rfl rfl rfl rfl ?_
  refine ra_getI rfl lk_0_41 (Nat.zero_le _) (sh_D hE0) rfl ?_
  have hr7 : ra_in (ra_g s5 (E0) 6) := (ra_in_g _ _ _)
  refine ra_putI rfl lk_0_41 (Nat.zero_le _) (sh_D hD) rfl rfl ?_
  refine ra_new Fr_up (fun s8 hs8 => ?_)
  have hF9 := Fr_tr (lo := D) (hi := D + 13) hF6 hs8 (by omega)
  refine ra_load rfl rfl rfl rfl ?_
  refine ra_load rfl rfl rfl rfl ?_
  refine ra_getI rfl lk_0_44 (Nat.zero_le _) (sh_D hE0) rfl ?_
  have hr10 : ra_in (ra_g s8 (E0) 7) := (ra_in_g _ _ _)
  refine ra_putI rfl lk_0_44 (Nat.zero_le _) (sh_D hD) rfl rfl ?_
  refine ra_new Fr_up (fun s11 hs11 => ?_)
  have hF12 := Fr_tr (lo := D) (hi := D + 13) hF9 hs11 (by omega)
  refine ra_load rfl rfl rfl rfl ?_
  refine ra_load rfl rfl rfl rfl ?_
  refine ra_getI rfl lk_0_47 (Nat.zero_le _) (sh_D hE0) rfl ?_
  have hr13 : ra_in (ra_g s11 (E0) 8) := (ra_in_g _ _ _)
  refine ra_putI rfl lk_0_47 (Nat.zero_le _) (sh_D hD) rfl rfl ?_
  refine ra_new Fr_up (fun s14 hs14 => ?_)
  have hF15 := Fr_tr (lo := D) (hi := D + 13) hF12 hs14 (by omega)
  refine ra_load rfl rfl rfl rfl ?_
  refine ra_load rfl rfl rfl rfl ?_
  refine ra_getI rfl lk_0_50 (Nat.zero_le _) (sh_D hE0) rfl ?_
  have hr16 : ra_in (ra_g s14 (E0) 9) := (ra_in_g _ _ _)
  refine ra_putI rfl lk_0_50 (Nat.zero_le _) (sh_D hD) rfl rfl ?_
  refine ra_new Fr_up (fun s17 hs17 => ?_)
  have hF18 := Fr_tr (lo := D) (hi := D + 13) hF15 hs17 (by omega)
  refine ra_load rfl rfl rfl rfl ?_
  refine ra_load rfl rfl rfl rfl ?_
  refine ra_getI rfl lk_0_53 (Nat.zero_le _) (sh_D hE0) rfl ?_
  have hr19 : ra_in (ra_g s17 (E0) 10) := (ra_in_g _ _ _)
  refine ra_putI rfl lk_0_53 (Nat.zero_le _) (sh_D hD) rfl rfl ?_
  refine ra_new Fr_up (fun s20 hs20 => ?_)
  have hF21 := Fr_tr (lo := D) (hi := D + 13) hF18 hs20 (by omega)
  refine ra_load rfl rfl rfl rfl ?_
  refine ra_load rfl rfl rfl rfl ?_
  refine ra_getI rfl lk_0_56 (Nat.zero_le _) (sh_D hE0) rfl ?_
  have hr22 : ra_in (ra_g s20 (E0) 11) := (ra_in_g _ _ _)
  refine ra_putI rfl lk_0_56 (Nat.zero_le _) (sh_D hD) rfl rfl ?_
  refine ra_new Fr_up (fun s23 hs23 => ?_)
  have hF24 := Fr_tr (lo := D) (hi := D + 13) hF21 hs23 (by omega)
  refine ra_load rfl rfl rfl rfl ?_
  refine ra_load rfl rfl rfl rfl ?_
  refine ra_getI rfl lk_0_59 (Nat.zero_le _) (sh_D hE0) rfl ?_
  have hr25 : ra_in (ra_g s23 (E0) 12) := (ra_in_g _ _ _)
  refine ra_putI rfl lk_0_59 (Nat.zero_le _) (sh_D hD) rfl rfl ?_
  refine ra_new Fr_up (fun s26 hs26 => ?_)
  have hF27 := Fr_tr (lo := D) (hi := D + 13) hF24 hs26 (by omega)
  refine ra_load rfl rfl rfl rfl ?_
  refine ra_getR rfl lk_0_24 (Nat.zero_le _) (sh_D hD) rfl ?_
  refine ra_load rfl rfl rfl rfl ?_
  refine ra_getR rfl lk_0_24 (Nat.zero_le _) (sh_D hE0) rfl ?_
  refine ra_cV (sp_66 hD hE0) rfl (ct_66 rfl lk_0_68 (Or.inl rfl) (sh_D3 hD) (Nat.le_of_ble_eq_true rfl)) (fun s28 hs28 => ?_)
  have hF29 := Fr_tr (lo := D) (hi := D + 13) hF27 hs28 (by omega)
  refine ra_iconst rfl ?_
  refine ra_store (L' := [_, _, _]) rfl rfl rfl (Nat.le_of_ble_eq_true rfl) rfl ?_
  exact ra_weak (by repeat' constructor) (l4_2_85 hD hE0 hDE _ (0) s28 (by first | omega | (unfold ra_in at *; omega)) (by first | omega | (unfold ra_in at *; omega)) hF29 (fun p hp => by omega) (Nat.lt_succ_self _))
end
end
section
/-! T4: what the class's methods that read a text do (printed by wip/gen/c4.py) -/
section
variable {B : Nat → Int} {bn ps ta : Nat} {pk uv al : Int} {r : Nat → Int}
theorem s4_102 {n : Nat} {f : Nat → Int32} {d : Nat} {E0 : Nat} {σ : ra_V} (hE0 : isD E0) (hq : E0 = 14) (hB : x4TB σ B bn) (hN : x4NXC B bn σ ta) (hA : x4AR r σ E0) : ra_C (g_Gs n f) g_sh 0 (d + 4) 102 [.index (175), .index (E0)] σ (fun r9 s => (∃ z : Int, (z = 0 ∨ z = 1) ∧ (x4OC bn s E0 z (tx_set B bn r ta 4 104 false 1 16)) ∧ r9 = .inl (some (ra_I z))) ∧ Fr (14) (177) σ s ∧ s (40) = σ (40) ∧ s (176) = σ (176) ∧ ra_g s 175 1 = ra_g σ 175 1) := by
  refine ra_enter (nn := 0) mt_102 rfl (Nat.le_of_ble_eq_true rfl) rfl (fun h => absurd h (by decide +kernel)) ?_
  have hA0 := hA
  obtain ⟨a1, a2, a3, a4, a5, a6, a7⟩ := hA0
  have hN0 := hN
  obtain ⟨n1, n2, n3, n4, n5, n6, n7, n8, n9⟩ := hN0
  have hB0 := hB
  obtain ⟨b1, b2, b3, b4⟩ := hB0
  refine ra_load rfl rfl rfl rfl ?_
  refine ra_getB rfl lk_6_38 (Nat.zero_le _) sh_175 rfl ?_
  refine ra_ifeqB rfl rfl (fun h1 => ?_) (fun h1 => ?_)
  · refine ra_load rfl rfl rfl rfl ?_
    refine ra_iconst rfl ?_
    refine ra_putB rfl lk_6_38 (Nat.zero_le _) sh_175 rfl rfl (Or.inr rfl) ?_
    refine ra_newU (ra_in01 (Or.inr rfl)) (fun s2 hs2 hp3 hp3o => ?_)
    have hp3_1 := hp3o 1 (by decide)
    have hp3_2 := hp3o 2 (by decide)
    have hp3_3 := hp3o 3 (by decide)
    have hp3_4 := hp3o 4 (by decide)
    have hp3_5 := hp3o 5 (by decide)
    have hp3_6 := hp3o 6 (by decide)
    have hp3_7 := hp3o 7 (by decide)
    have hp3_8 := hp3o 8 (by decide)
    have hp3_9 := hp3o 9 (by decide)
    have hp3_10 := hp3o 10 (by decide)
    have hF4 := Fr_tr (lo := 14) (hi := 177) Fr_rf hs2 (by omega)
    have hk5 : s2 (40) = σ (40) := (hs2 (40) (by omega))
    have hk6 : s2 (176) = σ (176) := (hs2 (176) (by omega))
    have hk7 : s2 (E0) = σ (E0) := (hs2 (E0) (by omega))
    refine ra_load rfl rfl rfl rfl ?_
    refine ra_iconst rfl ?_
    refine ra_bipush rfl (by decide) ?_
    refine ra_cQPs (s4_106 (by first | omega | (unfold ra_in at *; omega)) (by first | omega | (unfold ra_in at *; omega)) (x4TB_k (by omega) hk6 hB) (show ra_g s2 175 4 = ((tx_e B bn ta : Nat) : Int) from (by omega)) (by omega)) rfl (ct_106 rfl lk_6_54 (Or.inl rfl) sh_175 (Nat.le_of_ble_eq_true rfl)) (fun z9 s8 hz9 hz9p hs8 => ?_)
    obtain ⟨hf10, hc11, he12⟩ := hs8
    have hF13 := Fr_tr (lo := 14) (hi := 177) hF4 hf10 (by omega)
    have hk14 : s8 (40) = σ (40) := (hf10 (40) (by omega)).trans hk5
    have hk15 : s8 (176) = σ (176) := hc11.trans hk6
    have hk16 : s8 (E0) = σ (E0) := (hf10 (E0) (by omega)).trans hk7
    refine ra_ifne rfl rfl (ra_in01 hz9) (fun h17 => ?_) (fun h17 => ?_)
    · obtain ⟨-, v1_, e1, hr1, rfl, hp1, he1, hl1, hu1, hk1, hk1b, hn1⟩ := hz9p.resolve_right (fun q => by omega)
      refine ra_load rfl rfl rfl rfl ?_
      refine ra_load rfl rfl rfl rfl ?_
      refine ra_getI rfl lk_6_58 (Nat.zero_le _) sh_175 rfl ?_
      have hr18 : ra_in (ra_g s8 (175) 7) := (ra_in_g _ _ _)
      refine ra_putI rfl lk_6_112 (Nat.zero_le _) (sh_D hE0) rfl rfl ?_
      refine ra_newU hr18 (fun s19 hs19 hp20 hp20o => ?_)
      have hp20_4 := hp20o 4 (by decide)
      rw [ra_gk hk16] at hp20_4
      have hp20_5 := hp20o 5 (by decide)
      rw [ra_gk hk16] at hp20_5
      have hp20_6 := hp20o 6 (by decide)
      rw [ra_gk hk16] at hp20_6
      have hp20_7 := hp20o 7 (by decide)
      rw [ra_gk hk16] at hp20_7
      have hF21 := Fr_tr (lo := 14) (hi := 177) hF13 hs19 (by omega)
      have hk22 : s19 (40) = σ (40) := (hs19 (40) (by omega)).trans hk14
      have hk23 : s19 (176) = σ (176) := (hs19 (176) (by omega)).trans hk15
      refine ra_iconst rfl ?_
      exact ra_ireturn rfl (ra_okB (Or.inr rfl)) ⟨⟨_, (Or.inr rfl), (x4oc_y rfl (x4set_y (fun q => absurd q.1 (by decide)) (by omega) hr1) (x4AR_set (w := 4) (by omega) hA ⟨fun q => by omega, fun q => by omega⟩ (fun j j1 j2 j3 => ((hp20o j (by omega)).trans ((ra_gk (hf10 (E0) (by omega))).trans (ra_gk (hs2 (E0) (by omega)))))) (show ra_g s19 E0 8 = _ by omega) (show ra_g s19 175 11 = 1 from ((ra_gk (hs19 (175) (by omega))).trans (by omega))) (fun j j1 j2 j3 => ((ra_gk (hs19 (175) (by omega))).trans (by rcases (show j = 8 ∨ j = 9 ∨ j = 10 ∨ j = 11 by omega) with rfl | rfl | rfl | rfl <;> omega))) ⟨((ra_gk (hs19 (175) (by omega))).trans (by omega)), ((ra_gk (hs19 (175) (by omega))).trans (by omega))⟩ (fun p hp => ((hs19 (E0 + 5 + p) (by omega)).trans ((hf10 (E0 + 5 + p) (by omega)).trans (hs2 (E0 + 5 + p) (by omega)))))) ((ra_gk (hs19 (175) (by omega))).trans (by omega)) (by omega)), rfl⟩, ⟨hF21, hk22, hk23, ((ra_gk (hs19 (175) (by omega))).trans (by omega))⟩⟩
    · refine ra_iconst rfl ?_
      exact ra_ireturn rfl (ra_okB (Or.inl rfl)) ⟨⟨_, (Or.inl rfl), (x4oc_rd hz9p (by omega) rfl (fun x hx => x4set_n (fun q => absurd q.1 (by decide)) (by omega) hx)), rfl⟩, ⟨hF13, hk14, hk15, (by omega)⟩⟩
  · refine ra_load rfl rfl rfl rfl ?_
    refine ra_iconst rfl ?_
    refine ra_cQP (s4_107 (by first | omega | (unfold ra_in at *; omega))) rfl (ct_107 rfl lk_6_50 (Or.inl rfl) sh_175 (Nat.le_of_ble_eq_true rfl)) (fun z25 s24 hz25 hz25p hs24 => ?_)
    obtain ⟨hf26, hc27, he28⟩ := hs24
    have hF29 := Fr_tr (lo := 14) (hi := 177) Fr_rf hf26 (by omega)
    have hk30 : s24 (40) = σ (40) := (hf26 (40) (by omega))
    have hk31 : s24 (176) = σ (176) := hc27
    have hk32 : s24 (E0) = σ (E0) := (hf26 (E0) (by omega))
    exact ra_ireturn rfl (ra_okB hz25) ⟨⟨_, hz25, (x4oc_f (c := 3) (a := ta) hz25p (x4set_t (fun q => absurd q.1 (by decide)) (by omega)) (by omega) (by omega)), rfl⟩, ⟨hF29, hk30, hk31, (by omega)⟩⟩
theorem s4_104 {n : Nat} {f : Nat → Int32} {d : Nat} {E0 : Nat} {σ : ra_V} (hE0 : isD E0) (hq : E0 = 14) (hB : x4TB σ B bn) (hN : x4NXC B bn σ ta) (hA : x4AR r σ E0) : ra_C (g_Gs n f) g_sh 0 (d + 4) 104 [.index (175), .index (E0)] σ (fun r9 s => (∃ z : Int, (z = 0 ∨ z = 1) ∧ (x4OC bn s E0 z (tx_lock B bn r ta)) ∧ r9 = .inl (some (ra_I z))) ∧ Fr (14) (177) σ s ∧ s (40) = σ (40) ∧ s (176) = σ (176) ∧ ra_g s 175 1 = ra_g σ 175 1) := by
  refine ra_enter (nn := 1) mt_104 rfl (Nat.le_of_ble_eq_true rfl) rfl (fun h => absurd h (by decide +kernel)) ?_
  have hA0 := hA
  obtain ⟨a1, a2, a3, a4, a5, a6, a7⟩ := hA0
  have hN0 := hN
  obtain ⟨n1, n2, n3, n4, n5, n6, n7, n8, n9⟩ := hN0
  have hB0 := hB
  obtain ⟨b1, b2, b3, b4⟩ := hB0
  refine ra_load rfl rfl rfl rfl ?_
  refine ra_iconst rfl ?_
  refine ra_load rfl rfl rfl rfl ?_
  refine ra_cTp (s4_4 hE0 a6) rfl (ct_4 rfl lk_6_102 (Or.inl rfl) (sh_D hE0) (Nat.le_of_ble_eq_true rfl)) ?_
  have hr2 : ra_in ((r 5)) := (x4SZ_in a6)
  refine ra_iconst rfl ?_
  refine ra_isub rfl ?_
  refine ra_cQPs (s4_106 (by first | omega | (unfold ra_in at *; omega)) (by first | omega | (unfold ra_in at *; omega)) hB (show ra_g σ 175 4 = ((tx_e B bn ta : Nat) : Int) from (by omega)) (by omega)) rfl (ct_106 rfl lk_6_54 (Or.inl rfl) sh_175 (Nat.le_of_ble_eq_true rfl)) (fun z4 s3 hz4 hz4p hs3 => ?_)
  obtain ⟨hf5, hc6, he7⟩ := hs3
  have hF8 := Fr_tr (lo := 14) (hi := 177) Fr_rf hf5 (by omega)
  have hk9 : s3 (40) = σ (40) := (hf5 (40) (by omega))
  have hk10 : s3 (176) = σ (176) := hc6
  have hk11 : s3 (E0) = σ (E0) := (hf5 (E0) (by omega))
  refine ra_ifne rfl rfl (ra_in01 hz4) (fun h12 => ?_) (fun h12 => ?_)
  · obtain ⟨-, v1_, e1, hr1, rfl, hp1, he1, hl1, hu1, hk1, hk1b, hn1⟩ := hz4p.resolve_right (fun q => by omega)
    refine ra_load rfl rfl rfl rfl ?_
    refine ra_load rfl rfl rfl rfl ?_
    refine ra_getI rfl lk_6_58 (Nat.zero_le _) sh_175 rfl ?_
    have hr13 : ra_in (ra_g s3 (175) 7) := (ra_in_g _ _ _)
    refine ra_cTp (s4_3 hE0 hr13 (x4SZ_k (fun p hp => ra_gk (hf5 (E0 + 5 + p) (by omega))) a6) (by omega)) rfl (ct_3 rfl lk_6_128 (Or.inl rfl) (sh_D hE0) (Nat.le_of_ble_eq_true rfl)) ?_
    have hi15 : (ra_g s3 (175) 7).toNat < 8 := by omega
    refine ra_store (L' := [_, _, _]) rfl rfl rfl (Nat.le_of_ble_eq_true rfl) rfl ?_
    refine ra_load rfl rfl rfl rfl ?_
    refine ra_nnullT rfl rfl ?_
    have b7 := a7 (ra_g s3 (175) 7).toNat (by omega) (by omega)
    have c7 : ∀ j, ra_g s3 (E0 + 5 + (ra_g s3 (175) 7).toNat) j = ra_g σ (E0 + 5 + (ra_g s3 (175) 7).toNat) j := fun j => ra_gk (hf5 (E0 + 5 + (ra_g s3 (175) 7).toNat) (by omega))
    have c71 := c7 1
    have c72 := c7 2
    have c75 := c7 5
    refine ra_load rfl rfl rfl rfl ?_
    refine ra_getB rfl lk_6_132 (Nat.zero_le _) (sh_P hE0 hi15) rfl ?_
    refine ra_ifeqB rfl rfl (fun h16 => ?_) (fun h16 => ?_)
    · refine ra_load rfl rfl rfl rfl ?_
      refine ra_iconst rfl ?_
      refine ra_putB rfl lk_6_132 (Nat.zero_le _) (sh_P hE0 hi15) rfl rfl (Or.inr rfl) ?_
      refine ra_newU (by first | omega | (unfold ra_in at *; omega)) (fun s17 hs17 hpl hplo => ?_)
      have hF18 := Fr_tr (lo := 14) (hi := 177) hF8 hs17 (by omega)
      have hk19 : s17 (40) = σ (40) := (hs17 (40) (by omega)).trans hk9
      have hk20 : s17 (176) = σ (176) := (hs17 (176) (by omega)).trans hk10
      have hk21 : s17 (E0) = σ (E0) := (hs17 (E0) (by omega)).trans hk11
      refine ra_iconst rfl ?_
      exact ra_ireturn rfl (ra_okB (Or.inr rfl)) ⟨⟨_, (Or.inr rfl), (x4oc_y rfl (x4lock_y hr1 (by omega)) (x4AR_lock (j := (ra_g s3 (175) 7).toNat) (by omega) (by omega) hA ((hs17 (E0) (by omega)).trans (hf5 (E0) (by omega))) (fun p p0 p1 => ((hs17 (E0 + 5 + p) (by omega)).trans (hf5 (E0 + 5 + p) (by omega)))) hpl ⟨(hplo 1 (by decide)).trans c71, (hplo 2 (by decide)).trans c72⟩ ⟨((ra_gk (hs17 (175) (by omega))).trans (by omega)), ((ra_gk (hs17 (175) (by omega))).trans (by omega)), ((ra_gk (hs17 (175) (by omega))).trans (by omega)), ((ra_gk (hs17 (175) (by omega))).trans (by omega)), ((ra_gk (hs17 (175) (by omega))).trans (by omega)), ((ra_gk (hs17 (175) (by omega))).trans (by omega))⟩) ((ra_gk (hs17 (175) (by omega))).trans (by omega)) (by omega)), rfl⟩, ⟨hF18, hk19, hk20, ((ra_gk (hs17 (175) (by omega))).trans (by omega))⟩⟩
    · refine ra_load rfl rfl rfl rfl ?_
      refine ra_iconst rfl ?_
      refine ra_cQP (s4_107 (by first | omega | (unfold ra_in at *; omega))) rfl (ct_107 rfl lk_6_50 (Or.inl rfl) sh_175 (Nat.le_of_ble_eq_true rfl)) (fun z23 s22 hz23 hz23p hs22 => ?_)
      obtain ⟨hf24, hc25, he26⟩ := hs22
      have hF27 := Fr_tr (lo := 14) (hi := 177) hF8 hf24 (by omega)
      have hk28 : s22 (40) = σ (40) := (hf24 (40) (by omega)).trans hk9
      have hk29 : s22 (176) = σ (176) := hc25.trans hk10
      have hk30 : s22 (E0) = σ (E0) := (hf24 (E0) (by omega)).trans hk11
      exact ra_ireturn rfl (ra_okB hz23) ⟨⟨_, hz23, (x4oc_f (c := 3) (a := tx_a B bn (tx_e B bn ta)) hz23p (x4lock_t hr1 (by omega)) (by omega) (by omega)), rfl⟩, ⟨hF27, hk28, hk29, (by omega)⟩⟩
  · refine ra_iconst rfl ?_
    exact ra_ireturn rfl (ra_okB (Or.inl rfl)) ⟨⟨_, (Or.inl rfl), (x4oc_rd hz4p (by omega) rfl (fun x hx => x4lock_n hx)), rfl⟩, ⟨hF8, hk9, hk10, (by omega)⟩⟩
theorem s4_103 {n : Nat} {f : Nat → Int32} {d : Nat} {E0 : Nat} {σ : ra_V} (hE0 : isD E0) (hq : E0 = 14) (hB : x4TB σ B bn) (hN : x4NXC B bn σ ta) (hA : x4AR r σ E0) : ra_C (g_Gs n f) g_sh 0 (d + 4) 103 [.index (175), .index (E0)] σ (fun r9 s => (∃ z : Int, (z = 0 ∨ z = 1) ∧ (x4OC bn s E0 z (tx_part B bn r ta)) ∧ r9 = .inl (some (ra_I z))) ∧ Fr (14) (177) σ s ∧ s (40) = σ (40) ∧ s (176) = σ (176) ∧ ra_g s 175 1 = ra_g σ 175 1) := by
  refine ra_enter (nn := 3) mt_103 rfl (Nat.le_of_ble_eq_true rfl) rfl (fun h => absurd h (by decide +kernel)) ?_
  have hA0 := hA
  obtain ⟨a1, a2, a3, a4, a5, a6, a7⟩ := hA0
  have hN0 := hN
  obtain ⟨n1, n2, n3, n4, n5, n6, n7, n8, n9⟩ := hN0
  have hB0 := hB
  obtain ⟨b1, b2, b3, b4⟩ := hB0
  refine ra_load rfl rfl rfl rfl ?_
  refine ra_cTp (s4_4 hE0 a6) rfl (ct_4 rfl lk_6_102 (Or.inl rfl) (sh_D hE0) (Nat.le_of_ble_eq_true rfl)) ?_
  have hr2 : ra_in ((r 5)) := (x4SZ_in a6)
  refine ra_bipush rfl (by decide) ?_
  refine ra_iclt rfl rfl hr2 (by first | omega | (unfold ra_in at *; omega)) (fun h3 => ?_) (fun h3 => ?_)
  · refine ra_load rfl rfl rfl rfl ?_
    refine ra_load rfl rfl rfl rfl ?_
    refine ra_getI rfl lk_6_106 (Nat.zero_le _) (sh_D hE0) rfl ?_
    have hr4 : ra_in (ra_g σ (E0) 5) := (ra_in_g _ _ _)
    refine ra_load rfl rfl rfl rfl ?_
    refine ra_cTp (s4_9 hE0 (show ra_g σ (E0) 4 - ra_g σ (E0) 6 = r 0 - r 2 ∧ ra_in (r 0 - r 2) from ⟨by omega, by unfold ra_in; omega⟩)) rfl (ct_9 rfl lk_6_114 (Or.inl rfl) (sh_D hE0) (Nat.le_of_ble_eq_true rfl)) ?_
    have hr6 : ra_in ((r 0 - r 2)) := (show ra_g σ (E0) 4 - ra_g σ (E0) 6 = r 0 - r 2 ∧ ra_in (r 0 - r 2) from ⟨by omega, by unfold ra_in; omega⟩).2
    refine ra_iconst rfl ?_
    refine ra_isub rfl ?_
    refine ra_cQPs (s4_106 hr4 (by first | omega | (unfold ra_in at *; omega)) hB (show ra_g σ 175 4 = ((tx_e B bn ta : Nat) : Int) from (by omega)) (by omega)) rfl (ct_106 rfl lk_6_54 (Or.inl rfl) sh_175 (Nat.le_of_ble_eq_true rfl)) (fun z8 s7 hz8 hz8p hs7 => ?_)
    obtain ⟨hf9, hc10, he11⟩ := hs7
    have hF12 := Fr_tr (lo := 14) (hi := 177) Fr_rf hf9 (by omega)
    have hk13 : s7 (40) = σ (40) := (hf9 (40) (by omega))
    have hk14 : s7 (176) = σ (176) := hc10
    have hk15 : s7 (E0) = σ (E0) := (hf9 (E0) (by omega))
    rw [show ra_g σ (E0) 5 = r 1 from a1.2.1] at hz8p
    refine ra_ifne rfl rfl (ra_in01 hz8) (fun h16 => ?_) (fun h16 => ?_)
    · obtain ⟨-, v1_, e1, hr1, rfl, hp1, he1, hl1, hu1, hk1, hk1b, hn1⟩ := hz8p.resolve_right (fun q => by omega)
      refine ra_load rfl rfl rfl rfl ?_
      refine ra_getI rfl lk_6_58 (Nat.zero_le _) sh_175 rfl ?_
      have hr17 : ra_in (ra_g s7 (175) 7) := (ra_in_g _ _ _)
      refine ra_store (L' := [_, _, _, _, _]) rfl rfl rfl (Nat.le_of_ble_eq_true rfl) rfl ?_
      refine ra_load rfl rfl rfl rfl ?_
      refine ra_load rfl rfl rfl rfl ?_
      refine ra_cQPp (s4_11 hE0 hr17 ⟨(ra_gk (hf9 (E0) (by omega))).trans a1.2.2.2.1, by omega, by omega⟩) rfl (ct_11 rfl lk_6_117 (Or.inl rfl) (sh_D hE0) (Nat.le_of_ble_eq_true rfl)) (fun z19 hz19 hz19p => ?_)
      refine ra_ifne rfl rfl (ra_in01 hz19) (fun h20 => ?_) (fun h20 => ?_)
      · refine ra_load rfl rfl rfl rfl ?_
        refine ra_iconst rfl ?_
        refine ra_load rfl rfl rfl rfl ?_
        refine ra_cTp (s4_9 hE0 (show ra_g s7 (E0) 4 - ra_g s7 (E0) 6 = r 0 - r 2 ∧ ra_in (r 0 - r 2) from ⟨by rw [ra_gk (j := 4) (hf9 (E0) (by omega)), ra_gk (j := 6) (hf9 (E0) (by omega))]; omega, by unfold ra_in; omega⟩)) rfl (ct_9 rfl lk_6_114 (Or.inl rfl) (sh_D hE0) (Nat.le_of_ble_eq_true rfl)) ?_
        have hr22 : ra_in ((r 0 - r 2)) := (show ra_g s7 (E0) 4 - ra_g s7 (E0) 6 = r 0 - r 2 ∧ ra_in (r 0 - r 2) from ⟨by rw [ra_gk (j := 4) (hf9 (E0) (by omega)), ra_gk (j := 6) (hf9 (E0) (by omega))]; omega, by unfold ra_in; omega⟩).2
        refine ra_load rfl rfl rfl rfl ?_
        refine ra_isub rfl ?_
        refine ra_cQPs (s4_106 (by first | omega | (unfold ra_in at *; omega)) (by first | omega | (unfold ra_in at *; omega)) (x4TB_k (by omega) hk14 hB) (show ra_g s7 175 4 = ((e1 : Nat) : Int) from (by omega)) (by omega)) rfl (ct_106 rfl lk_6_54 (Or.inl rfl) sh_175 (Nat.le_of_ble_eq_true rfl)) (fun z24 s23 hz24 hz24p hs23 => ?_)
        obtain ⟨hf25, hc26, he27⟩ := hs23
        have hF28 := Fr_tr (lo := 14) (hi := 177) hF12 hf25 (by omega)
        have hk29 : s23 (40) = σ (40) := (hf25 (40) (by omega)).trans hk13
        have hk30 : s23 (176) = σ (176) := hc26.trans hk14
        have hk31 : s23 (E0) = σ (E0) := (hf25 (E0) (by omega)).trans hk15
        refine ra_ifne rfl rfl (ra_in01 hz24) (fun h32 => ?_) (fun h32 => ?_)
        · obtain ⟨-, v2_, e2, hr2, rfl, hp2, he2, hl2, hu2, hk2, hk2b, hn2⟩ := hz24p.resolve_right (fun q => by omega)
          refine ra_load rfl rfl rfl rfl ?_
          refine ra_getI rfl lk_6_58 (Nat.zero_le _) sh_175 rfl ?_
          have hr33 : ra_in (ra_g s23 (175) 7) := (ra_in_g _ _ _)
          refine ra_store (L' := [_, _, _, _, _]) rfl rfl rfl (Nat.le_of_ble_eq_true rfl) rfl ?_
          have hA2 := (x4AR_k (fun j hj => ((hf25 (E0 + j) (by omega)).trans (hf9 (E0 + j) (by omega)))) (by omega) hA)
          refine ra_load rfl rfl rfl rfl ?_
          refine ra_load rfl rfl rfl rfl ?_
          refine ra_i2l rfl hr17 ?_
          refine ra_load rfl rfl rfl rfl ?_
          refine ra_i2l rfl hr33 ?_
          refine ra_cIPp (s4_12 hE0 hr17 hr33 (x4AR_bd hA2)) rfl (ct_12 rfl lk_6_120 (Or.inl rfl) (sh_D hE0) (Nat.le_of_ble_eq_true rfl)) (fun z35 hz35 hz35p => ?_)
          have hmt : x4IFZ _ z35 := (x4AR_mt hA2).symm.trans hz35p.symm
          clear hz35p
          refine ra_ifeq rfl rfl hz35 (fun h36 => ?_) (fun h36 => ?_)
          · refine ra_load rfl rfl rfl rfl ?_
            refine ra_iconst rfl ?_
            refine ra_bipush rfl (by decide) ?_
            refine ra_cQPs (s4_106 (by first | omega | (unfold ra_in at *; omega)) (by first | omega | (unfold ra_in at *; omega)) (x4TB_k (by omega) hk30 hB) (show ra_g s23 175 4 = ((e2 : Nat) : Int) from (by omega)) (by omega)) rfl (ct_106 rfl lk_6_54 (Or.inl rfl) sh_175 (Nat.le_of_ble_eq_true rfl)) (fun z38 s37 hz38 hz38p hs37 => ?_)
            obtain ⟨hf39, hc40, he41⟩ := hs37
            have hF42 := Fr_tr (lo := 14) (hi := 177) hF28 hf39 (by omega)
            have hk43 : s37 (40) = σ (40) := (hf39 (40) (by omega)).trans hk29
            have hk44 : s37 (176) = σ (176) := hc40.trans hk30
            have hk45 : s37 (E0) = σ (E0) := (hf39 (E0) (by omega)).trans hk31
            refine ra_ifne rfl rfl (ra_in01 hz38) (fun h46 => ?_) (fun h46 => ?_)
            · obtain ⟨-, v3_, e3, hr3, rfl, hp3, he3, hl3, hu3, hk3, hk3b, hn3⟩ := hz38p.resolve_right (fun q => by omega)
              refine ra_load rfl rfl rfl rfl ?_
              refine ra_getI rfl lk_6_58 (Nat.zero_le _) sh_175 rfl ?_
              have hr47 : ra_in (ra_g s37 (175) 7) := (ra_in_g _ _ _)
              refine ra_store (L' := [_, _, _, _, _]) rfl rfl rfl (Nat.le_of_ble_eq_true rfl) rfl ?_
              refine ra_load rfl rfl rfl rfl ?_
              refine ra_iconst rfl ?_
              refine ra_load rfl rfl rfl rfl ?_
              refine ra_cQPs (s4_106 (by first | omega | (unfold ra_in at *; omega)) hr33 (x4TB_k (by omega) hk44 hB) (show ra_g s37 175 4 = ((e3 : Nat) : Int) from (by omega)) (by omega)) rfl (ct_106 rfl lk_6_54 (Or.inl rfl) sh_175 (Nat.le_of_ble_eq_true rfl)) (fun z49 s48 hz49 hz49p hs48 => ?_)
              obtain ⟨hf50, hc51, he52⟩ := hs48
              have hF53 := Fr_tr (lo := 14) (hi := 177) hF42 hf50 (by omega)
              have hk54 : s48 (40) = σ (40) := (hf50 (40) (by omega)).trans hk43
              have hk55 : s48 (176) = σ (176) := hc51.trans hk44
              have hk56 : s48 (E0) = σ (E0) := (hf50 (E0) (by omega)).trans hk45
              refine ra_ifne rfl rfl (ra_in01 hz49) (fun h57 => ?_) (fun h57 => ?_)
              · obtain ⟨-, v4_, e4, hr4, rfl, hp4, he4, hl4, hu4, hk4, hk4b, hn4⟩ := hz49p.resolve_right (fun q => by omega)
                have hA4 := (x4AR_k (fun j hj => ((hf50 (E0 + j) (by omega)).trans ((hf39 (E0 + j) (by omega)).trans ((hf25 (E0 + j) (by omega)).trans (hf9 (E0 + j) (by omega)))))) (by omega) hA)
                refine ra_load rfl rfl rfl rfl ?_
                refine ra_load rfl rfl rfl rfl ?_
                refine ra_load rfl rfl rfl rfl ?_
                refine ra_load rfl rfl rfl rfl ?_
                refine ra_load rfl rfl rfl rfl ?_
                refine ra_getI rfl lk_6_58 (Nat.zero_le _) sh_175 rfl ?_
                have hr58 : ra_in (ra_g s48 (175) 7) := (ra_in_g _ _ _)
                refine ra_cI (s4_33 hE0 hr17 hr33 hr47 hr58 (x4SZ_k (fun p hp => ra_gk ((hf50 (E0 + 5 + p) (by omega)).trans ((hf39 (E0 + 5 + p) (by omega)).trans ((hf25 (E0 + 5 + p) (by omega)).trans (hf9 (E0 + 5 + p) (by omega)))))) a6) (by omega)) rfl (ct_33 rfl lk_6_124 (Or.inl rfl) (sh_D hE0) (Nat.le_of_ble_eq_true rfl)) (fun z60 s59  hz60 hs59 => ?_)
                obtain ⟨hf61, he62⟩ := hs59
                have hF63 := Fr_tr (lo := 14) (hi := 177) hF53 hf61 (by omega)
                have hk64 : s59 (40) = σ (40) := (hf61 (40) (by omega)).trans hk54
                have hk65 : s59 (176) = σ (176) := (hf61 (176) (by omega)).trans hk55
                refine ra_pop rfl rfl ?_
                refine ra_iconst rfl ?_
                exact ra_ireturn rfl (ra_okB (Or.inr rfl)) ⟨⟨_, (Or.inr rfl), (x4oc_y rfl (x4part_y (by omega) hr1 (hz19p.mp (by omega)) hr2 (fun q => (Iff.mp hmt q) (by assumption)) hr3 hr4) (x4AR_mk hA4 (by omega) he62 ⟨by omega, by omega, by omega⟩ (hf61 (175) (by omega))) ((ra_gk (hf61 (175) (by omega))).trans (by omega)) (by omega)), rfl⟩, ⟨hF63, hk64, hk65, ((ra_gk (hf61 (175) (by omega))).trans (by omega))⟩⟩
              · refine ra_iconst rfl ?_
                exact ra_ireturn rfl (ra_okB (Or.inl rfl)) ⟨⟨_, (Or.inl rfl), (x4oc_rd hz49p (by omega) rfl (fun x hx => x4part_6 (by omega) hr1 (hz19p.mp (by omega)) hr2 (fun q => (Iff.mp hmt q) (by assumption)) hr3 hx)), rfl⟩, ⟨hF53, hk54, hk55, (by omega)⟩⟩
            · refine ra_iconst rfl ?_
              exact ra_ireturn rfl (ra_okB (Or.inl rfl)) ⟨⟨_, (Or.inl rfl), (x4oc_rd hz38p (by omega) rfl (fun x hx => x4part_5 (by omega) hr1 (hz19p.mp (by omega)) hr2 (fun q => (Iff.mp hmt q) (by assumption)) hx)), rfl⟩, ⟨hF42, hk43, hk44, (by omega)⟩⟩
          · refine ra_load rfl rfl rfl rfl ?_
            refine ra_iconst rfl ?_
            refine ra_cQP (s4_107 (by first | omega | (unfold ra_in at *; omega))) rfl (ct_107 rfl lk_6_50 (Or.inl rfl) sh_175 (Nat.le_of_ble_eq_true rfl)) (fun z67 s66 hz67 hz67p hs66 => ?_)
            obtain ⟨hf68, hc69, he70⟩ := hs66
            have hF71 := Fr_tr (lo := 14) (hi := 177) hF28 hf68 (by omega)
            have hk72 : s66 (40) = σ (40) := (hf68 (40) (by omega)).trans hk29
            have hk73 : s66 (176) = σ (176) := hc69.trans hk30
            have hk74 : s66 (E0) = σ (E0) := (hf68 (E0) (by omega)).trans hk31
            exact ra_ireturn rfl (ra_okB hz67) ⟨⟨_, hz67, (x4oc_f (c := 4) (a := tx_a B bn e1) hz67p (x4part_4 (by omega) hr1 (hz19p.mp (by omega)) hr2 (Iff.mpr hmt (by assumption))) (by omega) (by omega)), rfl⟩, ⟨hF71, hk72, hk73, (by omega)⟩⟩
        · refine ra_iconst rfl ?_
          exact ra_ireturn rfl (ra_okB (Or.inl rfl)) ⟨⟨_, (Or.inl rfl), (x4oc_rd hz24p (by omega) rfl (fun x hx => x4part_3 (by omega) hr1 (hz19p.mp (by omega)) hx)), rfl⟩, ⟨hF28, hk29, hk30, (by omega)⟩⟩
      · refine ra_load rfl rfl rfl rfl ?_
        refine ra_iconst rfl ?_
        refine ra_cQP (s4_107 (by first | omega | (unfold ra_in at *; omega))) rfl (ct_107 rfl lk_6_50 (Or.inl rfl) sh_175 (Nat.le_of_ble_eq_true rfl)) (fun z76 s75 hz76 hz76p hs75 => ?_)
        obtain ⟨hf77, hc78, he79⟩ := hs75
        have hF80 := Fr_tr (lo := 14) (hi := 177) hF12 hf77 (by omega)
        have hk81 : s75 (40) = σ (40) := (hf77 (40) (by omega)).trans hk13
        have hk82 : s75 (176) = σ (176) := hc78.trans hk14
        have hk83 : s75 (E0) = σ (E0) := (hf77 (E0) (by omega)).trans hk15
        exact ra_ireturn rfl (ra_okB hz76) ⟨⟨_, hz76, (x4oc_f (c := 2) (a := tx_a B bn (tx_e B bn ta)) hz76p (x4part_2 (by omega) hr1 (fun q => absurd (hz19p.mpr q) (by omega))) (by omega) (by omega)), rfl⟩, ⟨hF80, hk81, hk82, (by omega)⟩⟩
    · refine ra_iconst rfl ?_
      exact ra_ireturn rfl (ra_okB (Or.inl rfl)) ⟨⟨_, (Or.inl rfl), (x4oc_rd hz8p (by omega) rfl (fun x hx => x4part_1 (by omega) hx)), rfl⟩, ⟨hF12, hk13, hk14, (by omega)⟩⟩
  · refine ra_load rfl rfl rfl rfl ?_
    refine ra_iconst rfl ?_
    refine ra_cQP (s4_107 (by first | omega | (unfold ra_in at *; omega))) rfl (ct_107 rfl lk_6_50 (Or.inl rfl) sh_175 (Nat.le_of_ble_eq_true rfl)) (fun z85 s84 hz85 hz85p hs84 => ?_)
    obtain ⟨hf86, hc87, he88⟩ := hs84
    have hF89 := Fr_tr (lo := 14) (hi := 177) Fr_rf hf86 (by omega)
    have hk90 : s84 (40) = σ (40) := (hf86 (40) (by omega))
    have hk91 : s84 (176) = σ (176) := hc87
    have hk92 : s84 (E0) = σ (E0) := (hf86 (E0) (by omega))
    exact ra_ireturn rfl (ra_okB hz85) ⟨⟨_, hz85, (x4oc_f (c := 5) (a := ta) hz85p (x4part_0 (by omega)) (by omega) (by omega)), rfl⟩, ⟨hF89, hk90, hk91, (by omega)⟩⟩
end
end
