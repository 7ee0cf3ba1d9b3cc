/-! T4: what the class's methods that read a text do (printed by wip/gen/c4.py) -/
section
variable {B : Nat → Int} {bn ps ta : Nat} {pk uv al : Int} {r : Nat → Int}
theorem s4_107 {n : Nat} {f : Nat → Int32} {d : Nat} {x0 : Int} {σ : ra_V} (hx0 : ra_in x0) : ra_C (g_Gs n f) g_sh 0 (d + 1) 107 [.index (175), ra_I x0] σ (fun r9 s => (∃ z : Int, (z = 0 ∨ z = 1) ∧ (z = 0) ∧ r9 = .inl (some (ra_I z))) ∧ Fr (175) (177) σ s ∧ s (176) = σ (176) ∧ (ra_g s 175 1 = ra_g σ 175 1 ∧ ra_g s 175 2 = x0 ∧ ra_g s 175 3 = ra_g σ 175 6 ∧ ra_g s 175 8 = ra_g σ 175 8 ∧ ra_g s 175 9 = ra_g σ 175 9 ∧ ra_g s 175 10 = ra_g σ 175 10 ∧ ra_g s 175 11 = ra_g σ 175 11)) := by
  refine ra_enter (nn := 0) mt_107 rfl (Nat.le_of_ble_eq_true rfl) rfl (fun h => absurd h (by decide +kernel)) ?_
  refine ra_load rfl rfl rfl rfl ?_
  refine ra_load rfl rfl rfl rfl ?_
  refine ra_putI rfl lk_6_15 (Nat.zero_le _) sh_175 rfl rfl ?_
  refine ra_newU hx0 (fun s1 hs1 hp2 hp2o => ?_)
  have hp2_1 := hp2o 1 (by decide)
  have hp2_3 := hp2o 3 (by decide)
  have hp2_4 := hp2o 4 (by decide)
  have hp2_5 := hp2o 5 (by decide)
  have hp2_6 := hp2o 6 (by decide)
  have hp2_7 := hp2o 7 (by decide)
  have hp2_8 := hp2o 8 (by decide)
  have hp2_9 := hp2o 9 (by decide)
  have hp2_10 := hp2o 10 (by decide)
  have hp2_11 := hp2o 11 (by decide)
  have hF3 := Fr_tr (lo := 175) (hi := 177) Fr_rf hs1 (by omega)
  have hk4 : s1 (176) = σ (176) := (hs1 (176) (by omega))
  refine ra_load rfl rfl rfl rfl ?_
  refine ra_load rfl rfl rfl rfl ?_
  refine ra_getI rfl lk_6_137 (Nat.zero_le _) sh_175 rfl ?_
  have hr5 : ra_in (ra_g s1 (175) 6) := (ra_in_g _ _ _)
  refine ra_putI rfl lk_6_19 (Nat.zero_le _) sh_175 rfl rfl ?_
  refine ra_newU hr5 (fun s6 hs6 hp7 hp7o => ?_)
  have hp7_1 := hp7o 1 (by decide)
  have hp7_2 := hp7o 2 (by decide)
  have hp7_4 := hp7o 4 (by decide)
  have hp7_5 := hp7o 5 (by decide)
  have hp7_6 := hp7o 6 (by decide)
  have hp7_7 := hp7o 7 (by decide)
  have hp7_8 := hp7o 8 (by decide)
  have hp7_9 := hp7o 9 (by decide)
  have hp7_10 := hp7o 10 (by decide)
  have hp7_11 := hp7o 11 (by decide)
  have hF8 := Fr_tr (lo := 175) (hi := 177) hF3 hs6 (by omega)
  have hk9 : s6 (176) = σ (176) := (hs6 (176) (by omega)).trans hk4
  refine ra_iconst rfl ?_
  exact ra_ireturn rfl (ra_okB (Or.inl rfl)) ⟨⟨_, (Or.inl rfl), rfl, rfl⟩, ⟨hF8, hk9, by omega⟩⟩
theorem s4_106 {n : Nat} {f : Nat → Int32} {d : Nat} {x0 : Int} {x1 : Int} {σ : ra_V} (hx0 : ra_in x0) (hx1 : ra_in x1) (hB : x4TB σ B bn) (hps : ra_g σ 175 4 = (ps : Nat)) (hpl : ps ≤ bn) : ra_C (g_Gs n f) g_sh 0 (d + 3) 106 [.index (175), ra_I x0, ra_I x1] σ (fun r9 s => (∃ z : Int, (z = 0 ∨ z = 1) ∧ (x4NUM B bn σ s z ps x0 x1) ∧ r9 = .inl (some (ra_I z))) ∧ Fr (175) (177) σ s ∧ s (176) = σ (176) ∧ (ra_g s 175 1 = ra_g σ 175 1 ∧ ra_g s 175 8 = ra_g σ 175 8 ∧ ra_g s 175 9 = ra_g σ 175 9 ∧ ra_g s 175 10 = ra_g σ 175 10 ∧ ra_g s 175 11 = ra_g σ 175 11)) := by
  refine ra_enter (nn := 0) mt_106 rfl (Nat.le_of_ble_eq_true rfl) rfl (fun h => absurd h (by decide +kernel)) ?_
  refine ra_load rfl rfl rfl rfl ?_
  refine ra_cV (s4_111 (by first | assumption | rfl | omega) (by first | assumption | rfl | omega) (by first | assumption | rfl | omega)) rfl (ct_111 rfl lk_6_41 (Or.inl rfl) sh_175 (Nat.le_of_ble_eq_true rfl)) (fun s1 hs1 => ?_)
  obtain ⟨hf2, hc3, he4, he5⟩ := hs1
  have hF6 := Fr_tr (lo := 175) (hi := 177) Fr_rf hf2 (by omega)
  have hk7 : s1 (176) = σ (176) := hc3
  refine ra_load rfl rfl rfl rfl ?_
  refine ra_getI rfl lk_6_71 (Nat.zero_le _) sh_175 rfl ?_
  have hr8 : ra_in (ra_g s1 (175) 5) := (ra_in_g _ _ _)
  refine ra_iconst rfl ?_
  refine ra_iceq rfl rfl hr8 (by first | omega | (unfold ra_in at *; omega)) (fun h9 => ?_) (fun h9 => ?_)
  · refine ra_load rfl rfl rfl rfl ?_
    refine ra_getI rfl lk_6_58 (Nat.zero_le _) sh_175 rfl ?_
    have hr10 : ra_in (ra_g s1 (175) 7) := (ra_in_g _ _ _)
    refine ra_load rfl rfl rfl rfl ?_
    refine ra_iclt rfl rfl hr10 hx0 (fun h11 => ?_) (fun h11 => ?_)
    · refine ra_load rfl rfl rfl rfl ?_
      refine ra_iconst rfl ?_
      refine ra_cQP (s4_107 (by first | omega | (unfold ra_in at *; omega))) rfl (ct_107 rfl lk_6_50 (Or.inl rfl) sh_175 (Nat.le_of_ble_eq_true rfl)) (fun z13 s12 hz13 hz13p hs12 => ?_)
      obtain ⟨hf14, hc15, he16⟩ := hs12
      have hF17 := Fr_tr (lo := 175) (hi := 177) hF6 hf14 (by omega)
      have hk18 : s12 (176) = σ (176) := hc15.trans hk7
      refine ra_ifeq rfl rfl (ra_in01 hz13) (fun h19 => ?_) (fun h19 => ?_)
      · refine ra_iconst rfl ?_
        exact ra_ireturn rfl (ra_okB (Or.inl rfl)) ⟨⟨_, (Or.inl rfl), (by first | (exfalso; omega) | exact x4num_1 he5 (by omega) (by omega) (by omega) | exact x4num_2 he5 (by omega) (by omega) (by omega) (by omega)), rfl⟩, ⟨hF17, hk18, by omega⟩⟩
      · refine ra_iconst rfl ?_
        refine ra_goto rfl rfl ?_
        exact ra_ireturn rfl (ra_okB (Or.inr rfl)) ⟨⟨_, (Or.inr rfl), (by first | (exfalso; omega) | exact x4num_1 he5 (by omega) (by omega) (by omega) | exact x4num_2 he5 (by omega) (by omega) (by omega) (by omega)), rfl⟩, ⟨hF17, hk18, by omega⟩⟩
    · refine ra_load rfl rfl rfl rfl ?_
      refine ra_getI rfl lk_6_58 (Nat.zero_le _) sh_175 rfl ?_
      have hr20 : ra_in (ra_g s1 (175) 7) := (ra_in_g _ _ _)
      refine ra_load rfl rfl rfl rfl ?_
      refine ra_icle rfl rfl hr20 hx1 (fun h21 => ?_) (fun h21 => ?_)
      · refine ra_iconst rfl ?_
        refine ra_goto rfl rfl ?_
        exact ra_ireturn rfl (ra_okB (Or.inr rfl)) ⟨⟨_, (Or.inr rfl), (x4num_y he5 (by omega) (by omega) rfl (by omega)), rfl⟩, ⟨hF6, hk7, by omega⟩⟩
      · refine ra_load rfl rfl rfl rfl ?_
        refine ra_iconst rfl ?_
        refine ra_cQP (s4_107 (by first | omega | (unfold ra_in at *; omega))) rfl (ct_107 rfl lk_6_50 (Or.inl rfl) sh_175 (Nat.le_of_ble_eq_true rfl)) (fun z23 s22 hz23 hz23p hs22 => ?_)
        obtain ⟨hf24, hc25, he26⟩ := hs22
        have hF27 := Fr_tr (lo := 175) (hi := 177) hF6 hf24 (by omega)
        have hk28 : s22 (176) = σ (176) := hc25.trans hk7
        refine ra_ifeq rfl rfl (ra_in01 hz23) (fun h29 => ?_) (fun h29 => ?_)
        · refine ra_iconst rfl ?_
          exact ra_ireturn rfl (ra_okB (Or.inl rfl)) ⟨⟨_, (Or.inl rfl), (by first | (exfalso; omega) | exact x4num_1 he5 (by omega) (by omega) (by omega) | exact x4num_2 he5 (by omega) (by omega) (by omega) (by omega)), rfl⟩, ⟨hF27, hk28, by omega⟩⟩
        · refine ra_iconst rfl ?_
          refine ra_goto rfl rfl ?_
          exact ra_ireturn rfl (ra_okB (Or.inr rfl)) ⟨⟨_, (Or.inr rfl), (by first | (exfalso; omega) | exact x4num_1 he5 (by omega) (by omega) (by omega) | exact x4num_2 he5 (by omega) (by omega) (by omega) (by omega)), rfl⟩, ⟨hF27, hk28, by omega⟩⟩
  · refine ra_load rfl rfl rfl rfl ?_
    refine ra_iconst rfl ?_
    refine ra_cQP (s4_107 (by first | omega | (unfold ra_in at *; omega))) rfl (ct_107 rfl lk_6_50 (Or.inl rfl) sh_175 (Nat.le_of_ble_eq_true rfl)) (fun z31 s30 hz31 hz31p hs30 => ?_)
    obtain ⟨hf32, hc33, he34⟩ := hs30
    have hF35 := Fr_tr (lo := 175) (hi := 177) hF6 hf32 (by omega)
    have hk36 : s30 (176) = σ (176) := hc33.trans hk7
    exact ra_ireturn rfl (ra_okB hz31) ⟨⟨_, hz31, (by first | (exfalso; omega) | exact x4num_1 he5 (by omega) (by omega) (by omega) | exact x4num_2 he5 (by omega) (by omega) (by omega) (by omega)), rfl⟩, ⟨hF35, hk36, by omega⟩⟩
theorem s4_105 {n : Nat} {f : Nat → Int32} {d : Nat}  {σ : ra_V} (hB : x4TB σ B bn) (hps : ra_g σ 175 4 = (ps : Nat)) (hpl : ps ≤ bn) : ra_C (g_Gs n f) g_sh 0 (d + 3) 105 [.index (175)] σ (fun r9 s => (∃ z : Int, (z = 0 ∨ z = 1) ∧ (x4SEM B bn σ s z ps) ∧ r9 = .inl (some (ra_I z))) ∧ Fr (175) (177) σ s ∧ s (176) = σ (176) ∧ (ra_g s 175 1 = ra_g σ 175 1 ∧ ra_g s 175 8 = ra_g σ 175 8 ∧ ra_g s 175 9 = ra_g σ 175 9 ∧ ra_g s 175 10 = ra_g σ 175 10 ∧ ra_g s 175 11 = ra_g σ 175 11)) := by
  refine ra_enter (nn := 0) mt_105 rfl (Nat.le_of_ble_eq_true rfl) rfl (fun h => absurd h (by decide +kernel)) ?_
  refine ra_load rfl rfl rfl rfl ?_
  refine ra_cV (s4_111 (by first | assumption | rfl | omega) (by first | assumption | rfl | omega) (by first | assumption | rfl | omega)) rfl (ct_111 rfl lk_6_41 (Or.inl rfl) sh_175 (Nat.le_of_ble_eq_true rfl)) (fun s1 hs1 => ?_)
  obtain ⟨hf2, hc3, he4, he5⟩ := hs1
  have hF6 := Fr_tr (lo := 175) (hi := 177) Fr_rf hf2 (by omega)
  have hk7 : s1 (176) = σ (176) := hc3
  refine ra_load rfl rfl rfl rfl ?_
  refine ra_getI rfl lk_6_71 (Nat.zero_le _) sh_175 rfl ?_
  have hr8 : ra_in (ra_g s1 (175) 5) := (ra_in_g _ _ _)
  refine ra_iconst rfl ?_
  refine ra_iceq rfl rfl hr8 (by first | omega | (unfold ra_in at *; omega)) (fun h9 => ?_) (fun h9 => ?_)
  · refine ra_iconst rfl ?_
    refine ra_goto rfl rfl ?_
    exact ra_ireturn rfl (ra_okB (Or.inr rfl)) ⟨⟨_, (Or.inr rfl), (x4sem_y he5 (by omega) rfl (by omega)), rfl⟩, ⟨hF6, hk7, by omega⟩⟩
  · refine ra_load rfl rfl rfl rfl ?_
    refine ra_iconst rfl ?_
    refine ra_cQP (s4_107 (by first | omega | (unfold ra_in at *; omega))) rfl (ct_107 rfl lk_6_50 (Or.inl rfl) sh_175 (Nat.le_of_ble_eq_true rfl)) (fun z11 s10 hz11 hz11p hs10 => ?_)
    obtain ⟨hf12, hc13, he14⟩ := hs10
    have hF15 := Fr_tr (lo := 175) (hi := 177) hF6 hf12 (by omega)
    have hk16 : s10 (176) = σ (176) := hc13.trans hk7
    refine ra_ifeq rfl rfl (ra_in01 hz11) (fun h17 => ?_) (fun h17 => ?_)
    · refine ra_iconst rfl ?_
      exact ra_ireturn rfl (ra_okB (Or.inl rfl)) ⟨⟨_, (Or.inl rfl), (by first | (exfalso; omega) | exact x4sem_n he5 (by omega) (by omega) (by omega)), rfl⟩, ⟨hF15, hk16, by omega⟩⟩
    · refine ra_iconst rfl ?_
      refine ra_goto rfl rfl ?_
      exact ra_ireturn rfl (ra_okB (Or.inr rfl)) ⟨⟨_, (Or.inr rfl), (by first | (exfalso; omega) | exact x4sem_n he5 (by omega) (by omega) (by omega)), rfl⟩, ⟨hF15, hk16, by omega⟩⟩
theorem l4_112_28 {n : Nat} {f : Nat → Int32} {d : Nat} {q0 : Nat} {tx0 : String} {u0 w0 : Nat} {σ : ra_V} (hq0 : ri_cp (g_Gs n f) g_m_X6_isWord q0 = some (9, u0, w0, tx0)) (hl0 : tx0.toList.length ≤ 100) (hB : x4TB σ B bn) (hN : x4NXC B bn σ ta) : ∀ (nn : Nat) (v2 : Int) (hv2_0 : 0 ≤ v2) (hv2_1 : ra_in v2) (hv2_2 : ∀ j : Nat, (j : Int) < v2 → B (ta + j) = ((tx0.toList.getD j 'a').toNat : Int)) (hk : tx_k B bn ta = 1 ∧ tx_e B bn ta = ta + tx0.toList.length) (hm : ((((tx0.toList.length : Nat) : Int) - v2 : Int)).toNat < nn), ra_P (g_Gs n f) g_sh 0 (d + 5) g_m_X6_isWord 28 [some (.index (175)), some (.string (ri_own g_m_X6_isWord) q0), some (ra_I v2)] [] σ (fun r9 s => (∃ z : Int, (z = 0 ∨ z = 1) ∧ (z = 1 ↔ tx_isw B bn ta tx0.toList = true) ∧ r9 = .inl (some (ra_I z))) ∧ s = σ) := by
  intro nn
  induction nn with
  | zero => intro v2 hv2_0 hv2_1 hv2_2 hk hm; exact absurd hm (Nat.not_lt_zero _)
  | succ nn ih =>
    intro v2 hv2_0 hv2_1 hv2_2 hk hm
    have hB0 := hB
    obtain ⟨b1, b2, b3, b4⟩ := hB0
    have hN0 := hN
    obtain ⟨n1, n2, n3, n4, n5, n6, n7, n8, n9⟩ := hN0
    refine ra_load rfl rfl rfl rfl ?_
    refine ra_load rfl rfl rfl rfl ?_
    refine ra_slen_ rfl lk_6_150 hq0 (Nat.le_of_ble_eq_true rfl) (by decide +kernel) ?_
    refine ra_icge rfl rfl (by first | omega | (unfold ra_in at *; omega)) (by first | omega | (unfold ra_in at *; omega)) (fun h6 => ?_) (fun h6 => ?_)
    · refine ra_iconst rfl ?_
      exact ra_ireturn rfl (ra_okB (Or.inr rfl)) ⟨⟨_, (Or.inr rfl), (iff_of_true rfl (x4isw_iff.mpr ⟨hk.1, by omega, fun j hj => hv2_2 j (by omega)⟩)), rfl⟩, rfl⟩
    · refine ra_load rfl rfl rfl rfl ?_
      refine ra_load rfl rfl rfl rfl ?_
      refine ra_getI rfl lk_6_137 (Nat.zero_le _) sh_175 rfl ?_
      have hr7 : ra_in (ra_g σ (175) 6) := (ra_in_g _ _ _)
      refine ra_load rfl rfl rfl rfl ?_
      refine ra_iadd rfl ?_
      refine ra_cTp (s4_108 (by first | omega | (unfold ra_in at *; omega)) (by first | assumption | rfl | omega) (by first | assumption | rfl | omega)) rfl (ct_108 rfl lk_6_140 (Or.inl rfl) sh_175 (Nat.le_of_ble_eq_true rfl)) ?_
      have hr9 : ra_in (B ((ra_g σ (175) 6) + v2).toNat) := (x4TB_in (by first | assumption | rfl | omega))
      have eb : (ra_g σ 175 6 + v2).toNat = ta + v2.toNat := by omega
      refine ra_load rfl rfl rfl rfl ?_
      refine ra_load rfl rfl rfl rfl ?_
      obtain ⟨ch10, hch10⟩ : ∃ c, tx0.toList[(v2).toNat]? = some c := ⟨_, List.getElem?_eq_getElem (by first | omega | (unfold ra_in at *; omega))⟩
      refine ra_schar rfl lk_6_154 hq0 (Nat.le_of_ble_eq_true rfl) (by decide +kernel) (by first | omega | (unfold ra_in at *; omega)) (by first | omega | (unfold ra_in at *; omega)) hch10 ?_
      refine ra_iceq rfl rfl hr9 (x4ch_in ch10) (fun h11 => ?_) (fun h11 => ?_)
      · refine ra_iinc (L' := [_, _, _]) rfl rfl (Nat.le_of_ble_eq_true rfl) rfl ?_
        refine ra_goto rfl rfl ?_
        exact ra_weak (by repeat' constructor) (ih (v2 + 1) (by first | omega | (unfold ra_in at *; omega)) (by first | omega | (unfold ra_in at *; omega)) (x4isw_s hv2_0 hv2_2 hch10 (by rw [← eb]; omega)) hk (by first | omega | (unfold ra_in at *; omega)))
      · refine ra_iconst rfl ?_
        exact ra_ireturn rfl (ra_okB (Or.inl rfl)) ⟨⟨_, (Or.inl rfl), (iff_of_false (by decide) (x4isw_n hch10 (by rw [← eb]; omega))), rfl⟩, rfl⟩
theorem s4_112 {n : Nat} {f : Nat → Int32} {d : Nat} {q0 : Nat} {tx0 : String} {u0 w0 : Nat} {σ : ra_V} (hq0 : ri_cp (g_Gs n f) g_m_X6_isWord q0 = some (9, u0, w0, tx0)) (hl0 : tx0.toList.length ≤ 100) (hB : x4TB σ B bn) (hN : x4NXC B bn σ ta) : ra_C (g_Gs n f) g_sh 0 (d + 6) 112 [.index (175), .string (ri_own g_m_X6_isWord) q0] σ (fun r9 s => (∃ z : Int, (z = 0 ∨ z = 1) ∧ (z = 1 ↔ tx_isw B bn ta tx0.toList = true) ∧ r9 = .inl (some (ra_I z))) ∧ s = σ) := by
  refine ra_enter (nn := 1) mt_112 rfl (Nat.le_of_ble_eq_true rfl) rfl (fun _ => by omega) ?_
  have hB0 := hB
  obtain ⟨b1, b2, b3, b4⟩ := hB0
  have hN0 := hN
  obtain ⟨n1, n2, n3, n4, n5, n6, n7, n8, n9⟩ := hN0
  refine ra_load rfl rfl rfl rfl ?_
  refine ra_getI rfl lk_6_71 (Nat.zero_le _) sh_175 rfl ?_
  have hr1 : ra_in (ra_g σ (175) 5) := (ra_in_g _ _ _)
  refine ra_iconst rfl ?_
  refine ra_icne rfl rfl hr1 (by first | omega | (unfold ra_in at *; omega)) (fun h2 => ?_) (fun h2 => ?_)
  · refine ra_iconst rfl ?_
    exact ra_ireturn rfl (ra_okB (Or.inl rfl)) ⟨⟨_, (Or.inl rfl), (iff_of_false (by decide) (fun q => by have q1 := x4isw_iff.mp q; have q2 := q1.1; have q3 := q1.2.1; omega)), rfl⟩, rfl⟩
  · refine ra_load rfl rfl rfl rfl ?_
    refine ra_getI rfl lk_6_25 (Nat.zero_le _) sh_175 rfl ?_
    have hr3 : ra_in (ra_g σ (175) 4) := (ra_in_g _ _ _)
    refine ra_load rfl rfl rfl rfl ?_
    refine ra_getI rfl lk_6_137 (Nat.zero_le _) sh_175 rfl ?_
    have hr4 : ra_in (ra_g σ (175) 6) := (ra_in_g _ _ _)
    refine ra_isub rfl ?_
    refine ra_load rfl rfl rfl rfl ?_
    refine ra_slen_ rfl lk_6_150 hq0 (Nat.le_of_ble_eq_true rfl) (by decide +kernel) ?_
    refine ra_iceq rfl rfl (by first | omega | (unfold ra_in at *; omega)) (by first | omega | (unfold ra_in at *; omega)) (fun h5 => ?_) (fun h5 => ?_)
    · refine ra_iconst rfl ?_
      refine ra_store (L' := [_, _, _]) rfl rfl rfl (Nat.le_of_ble_eq_true rfl) rfl ?_
      exact ra_weak (by repeat' constructor) (l4_112_28 hq0 hl0 hB hN _ (0) (by first | omega | (unfold ra_in at *; omega)) (by first | omega | (unfold ra_in at *; omega)) (fun j hj => by omega) (by omega) (Nat.lt_succ_self _))
    · refine ra_iconst rfl ?_
      exact ra_ireturn rfl (ra_okB (Or.inl rfl)) ⟨⟨_, (Or.inl rfl), (iff_of_false (by decide) (fun q => by have q1 := x4isw_iff.mp q; have q2 := q1.1; have q3 := q1.2.1; omega)), rfl⟩, rfl⟩
end
