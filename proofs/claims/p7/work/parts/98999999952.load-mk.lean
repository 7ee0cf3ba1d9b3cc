/-! T5: the class's loadDisk (printed by wip/gen/c10.py) -/
section
variable {B : Nat → Int} {bn ps ta : Nat} {pk uv al : Int} {r : Nat → Int} {nh : Int} {R : Nat → ra_V}
theorem l9_33_14 {n : Nat} {f : Nat → Int32} {d : Nat} {D : Nat} {x0 : Int} {x1 : Int} {x2 : Int} {x3 : Int} {σ : ra_V} (hD : isD D) (hx0 : ra_in x0) (hx1 : ra_in x1) (hx2 : ra_in x2) (hx3 : ra_in x3) (hst : x4SZ σ D pk) (h8 : pk < 8) : ∀ (nn : Nat) (v7 : Int) (hv7_0 : 0 ≤ v7) (hv7_1 : v7 ≤ 8) (hv7_2 : v7 ≤ pk) (hm : ((8 - v7 : Int)).toNat < nn), ra_P (g_Gs n f) g_sh 0 (d + 2) g_m_X0_make 14 [some (.index (D)), some (ra_I x0), some (ra_I x1), some (ra_I x2), some (ra_I x3), some (.index (D + 2)), some (ra_I ((8 : Nat) : Int)), some (ra_I v7), none] [] σ (fun r9 s => rI r9 ∧ Fr (D) (D + 13) σ s ∧ x5MK6 σ s D pk.toNat x0 x1 x2 x3) := by
  intro nn
  induction nn with
  | zero => intro v7 hv7_0 hv7_1 hv7_2 hm; exact absurd hm (Nat.not_lt_zero _)
  | succ nn ih =>
    intro v7 hv7_0 hv7_1 hv7_2 hm
    have hst0 := hst
    obtain ⟨hs1, hs2⟩ := hst0
    have hsp := hs2 v7.toNat
    refine ra_load rfl rfl rfl rfl ?_
    refine ra_load rfl rfl rfl rfl ?_
    refine ra_icge rfl rfl (by first | omega | (unfold ra_in at *; omega)) (by first | omega | (unfold ra_in at *; omega)) (fun h1 => ?_) (fun h1 => ?_)
    · refine ra_iconst rfl ?_
      exact ra_ireturn rfl rfl ⟨⟨_, (by first | omega | (unfold ra_in at *; omega)), rfl⟩, (by exfalso; omega)⟩
    · refine ra_load rfl rfl rfl rfl ?_
      refine ra_load rfl rfl rfl rfl ?_
      refine ra_aaload rfl (sh_D2 hD) rfl (by decide) (by first | omega | (unfold ra_in at *; omega)) (by first | omega | (unfold ra_in at *; omega)) (sh_pt (by first | omega | (unfold ra_in at *; omega)) (by first | omega | (unfold ra_in at *; omega))) rfl ?_
      have hi2 : v7.toNat < 8 := (by first | omega | (unfold ra_in at *; omega))
      refine ra_store (L' := [_, _, _, _, _, _, _, _, _]) rfl rfl rfl (Nat.le_of_ble_eq_true rfl) rfl ?_
      refine ra_load rfl rfl rfl rfl ?_
      refine ra_cTp (s4_92 hD hi2) rfl (ct_92 rfl lk_0_81 (Or.inl rfl) (sh_P hD hi2) (Nat.le_of_ble_eq_true rfl)) ?_
      refine ra_ifneB rfl rfl (fun h4 => ?_) (fun h4 => ?_)
      · refine ra_iinc (L' := [_, _, _, _, _, _, _, _, _]) rfl rfl (Nat.le_of_ble_eq_true rfl) rfl ?_
        refine ra_goto rfl rfl ?_
        exact ra_weak (by repeat' constructor) (ih (v7 + 1) (by first | omega | (unfold ra_in at *; omega)) (by first | omega | (unfold ra_in at *; omega)) (by first | omega | (unfold ra_in at *; omega)) (by first | omega | (unfold ra_in at *; omega)))
      · refine ra_load rfl rfl rfl rfl ?_
        refine ra_load rfl rfl rfl rfl ?_
        refine ra_putI rfl lk_0_85 (Nat.zero_le _) (sh_P hD hi2) rfl rfl ?_
        refine ra_newU hx0 (fun s5 hs5 hp6 hp6o => ?_)
        have hF7 := Fr_tr (lo := D) (hi := D + 13) Fr_rf hs5 (by omega)
        refine ra_load rfl rfl rfl rfl ?_
        refine ra_load rfl rfl rfl rfl ?_
        refine ra_putI rfl lk_0_65 (Nat.zero_le _) (sh_P hD hi2) rfl rfl ?_
        refine ra_newU hx1 (fun s8 hs8 hp9 hp9o => ?_)
        have hF10 := Fr_tr (lo := D) (hi := D + 13) hF7 hs8 (by omega)
        refine ra_load rfl rfl rfl rfl ?_
        refine ra_load rfl rfl rfl rfl ?_
        refine ra_putI rfl lk_0_148 (Nat.zero_le _) (sh_P hD hi2) rfl rfl ?_
        refine ra_newU hx3 (fun s11 hs11 hp12 hp12o => ?_)
        have hF13 := Fr_tr (lo := D) (hi := D + 13) hF10 hs11 (by omega)
        refine ra_load rfl rfl rfl rfl ?_
        refine ra_load rfl rfl rfl rfl ?_
        refine ra_putI rfl lk_0_220 (Nat.zero_le _) (sh_P hD hi2) rfl rfl ?_
        refine ra_newU hx2 (fun s14 hs14 hp15 hp15o => ?_)
        have hF16 := Fr_tr (lo := D) (hi := D + 13) hF13 hs14 (by omega)
        refine ra_load rfl rfl rfl rfl ?_
        refine ra_iconst rfl ?_
        refine ra_putB rfl lk_0_94 (Nat.zero_le _) (sh_P hD hi2) rfl rfl (Or.inl rfl) ?_
        refine ra_newU (ra_in01 (Or.inl rfl)) (fun s17 hs17 hp18 hp18o => ?_)
        have hF19 := Fr_tr (lo := D) (hi := D + 13) hF16 hs17 (by omega)
        refine ra_load rfl rfl rfl rfl ?_
        refine ra_load rfl rfl rfl rfl ?_
        refine ra_getI rfl lk_0_50 (Nat.zero_le _) (sh_D hD) rfl ?_
        rw [show (ra_g s17 (D) 9) = (ra_g σ (D) 9) from ((ra_gk (hs17 (D) (by omega))).trans ((ra_gk (hs14 (D) (by omega))).trans ((ra_gk (hs11 (D) (by omega))).trans ((ra_gk (hs8 (D) (by omega))).trans (ra_gk (hs5 (D) (by omega)))))))]
        have hr20 : ra_in (ra_g σ (D) 9) := (by rw [← (show (ra_g s17 (D) 9) = (ra_g σ (D) 9) from ((ra_gk (hs17 (D) (by omega))).trans ((ra_gk (hs14 (D) (by omega))).trans ((ra_gk (hs11 (D) (by omega))).trans ((ra_gk (hs8 (D) (by omega))).trans (ra_gk (hs5 (D) (by omega))))))))]; exact ra_in_g _ _ _)
        refine ra_putI rfl lk_0_223 (Nat.zero_le _) (sh_P hD hi2) rfl rfl ?_
        refine ra_newU hr20 (fun s21 hs21 hp22 hp22o => ?_)
        have hF23 := Fr_tr (lo := D) (hi := D + 13) hF19 hs21 (by omega)
        refine ra_load rfl rfl rfl rfl ?_
        refine ra_iconst rfl ?_
        refine ra_putI rfl lk_0_226 (Nat.zero_le _) (sh_P hD hi2) rfl rfl ?_
        refine ra_newU (by first | omega | (unfold ra_in at *; omega)) (fun s24 hs24 hp25 hp25o => ?_)
        have hF26 := Fr_tr (lo := D) (hi := D + 13) hF23 hs24 (by omega)
        refine ra_load rfl rfl rfl rfl ?_
        refine ra_dup rfl rfl ?_
        refine ra_getI rfl lk_0_50 (Nat.zero_le _) (sh_D hD) rfl ?_
        rw [show (ra_g s24 (D) 9) = (ra_g σ (D) 9) from ((ra_gk (hs24 (D) (by omega))).trans ((ra_gk (hs21 (D) (by omega))).trans ((ra_gk (hs17 (D) (by omega))).trans ((ra_gk (hs14 (D) (by omega))).trans ((ra_gk (hs11 (D) (by omega))).trans ((ra_gk (hs8 (D) (by omega))).trans (ra_gk (hs5 (D) (by omega)))))))))]
        have hr27 : ra_in (ra_g σ (D) 9) := (by rw [← (show (ra_g s24 (D) 9) = (ra_g σ (D) 9) from ((ra_gk (hs24 (D) (by omega))).trans ((ra_gk (hs21 (D) (by omega))).trans ((ra_gk (hs17 (D) (by omega))).trans ((ra_gk (hs14 (D) (by omega))).trans ((ra_gk (hs11 (D) (by omega))).trans ((ra_gk (hs8 (D) (by omega))).trans (ra_gk (hs5 (D) (by omega))))))))))]; exact ra_in_g _ _ _)
        refine ra_iconst rfl ?_
        refine ra_iadd rfl ?_
        refine x5wr_ ?_
        refine ra_putI rfl lk_0_50 (Nat.zero_le _) (sh_D hD) rfl rfl ?_
        refine ra_newU (ra_w_in _) (fun s28 hs28 hp29 hp29o => ?_)
        have hF30 := Fr_tr (lo := D) (hi := D + 13) hF26 hs28 (by omega)
        refine ra_load rfl rfl rfl rfl ?_
        refine ra_load rfl rfl rfl rfl ?_
        refine ra_iconst rfl ?_
        refine ra_cV (sp_25 hD hi2 (by first | omega | (unfold ra_in at *; omega))) rfl (ct_25 rfl lk_0_229 (Or.inl rfl) (sh_D hD) (Nat.le_of_ble_eq_true rfl)) (fun s31 hs31 => ?_)
        have hF32 := Fr_tr (lo := D) (hi := D + 13) hF30 hs31 (by omega)
        refine ra_load rfl rfl rfl rfl ?_
        refine ra_getK rfl lk_0_91 (Nat.zero_le _) (sh_P hD hi2) rfl ?_
        exact ra_ireturn rfl rfl ⟨⟨_, (by first | omega | (unfold ra_in at *; omega)), rfl⟩, ⟨hF32, (by rw [show pk.toNat = v7.toNat by omega]; exact ⟨⟨fun j j1 j2 => ((ra_gk (hs31 (D) (by omega))).trans ((hp29o j (by omega)).trans ((ra_gk (hs24 (D) (by omega))).trans ((ra_gk (hs21 (D) (by omega))).trans ((ra_gk (hs17 (D) (by omega))).trans ((ra_gk (hs14 (D) (by omega))).trans ((ra_gk (hs11 (D) (by omega))).trans ((ra_gk (hs8 (D) (by omega))).trans (ra_gk (hs5 (D) (by omega))))))))))), fun p p0 p1 => ((hs31 (D + 5 + p) (by omega)).trans ((hs28 (D + 5 + p) (by omega)).trans ((hs24 (D + 5 + p) (by omega)).trans ((hs21 (D + 5 + p) (by omega)).trans ((hs17 (D + 5 + p) (by omega)).trans ((hs14 (D + 5 + p) (by omega)).trans ((hs11 (D + 5 + p) (by omega)).trans ((hs8 (D + 5 + p) (by omega)).trans (hs5 (D + 5 + p) (by omega)))))))))), ((ra_gk (hs31 (D + 5 + v7.toNat) (by omega))).trans ((ra_gk (hs28 (D + 5 + v7.toNat) (by omega))).trans ((hp25o 1 (by decide)).trans ((hp22o 1 (by decide)).trans ((hp18o 1 (by decide)).trans ((hp15o 1 (by decide)).trans ((hp12o 1 (by decide)).trans ((hp9o 1 (by decide)).trans hp6)))))))), ((ra_gk (hs31 (D + 5 + v7.toNat) (by omega))).trans ((ra_gk (hs28 (D + 5 + v7.toNat) (by omega))).trans ((hp25o 2 (by decide)).trans ((hp22o 2 (by decide)).trans ((hp18o 2 (by decide)).trans ((hp15o 2 (by decide)).trans ((hp12o 2 (by decide)).trans hp9))))))), ((ra_gk (hs31 (D + 5 + v7.toNat) (by omega))).trans ((ra_gk (hs28 (D + 5 + v7.toNat) (by omega))).trans ((hp25o 5 (by decide)).trans ((hp22o 5 (by decide)).trans hp18))))⟩, ⟨((ra_gk (hs31 (D) (by omega))).trans hp29), fun j j1 j2 => ((ra_gk (hs31 (D) (by omega))).trans ((hp29o j (by omega)).trans ((ra_gk (hs24 (D) (by omega))).trans ((ra_gk (hs21 (D) (by omega))).trans ((ra_gk (hs17 (D) (by omega))).trans ((ra_gk (hs14 (D) (by omega))).trans ((ra_gk (hs11 (D) (by omega))).trans ((ra_gk (hs8 (D) (by omega))).trans (ra_gk (hs5 (D) (by omega))))))))))), ((hs31 (D + 3) (by omega)).trans ((hs28 (D + 3) (by omega)).trans ((hs24 (D + 3) (by omega)).trans ((hs21 (D + 3) (by omega)).trans ((hs17 (D + 3) (by omega)).trans ((hs14 (D + 3) (by omega)).trans ((hs11 (D + 3) (by omega)).trans ((hs8 (D + 3) (by omega)).trans (hs5 (D + 3) (by omega))))))))))⟩, ((ra_gk (hs31 (D + 5 + v7.toNat) (by omega))).trans ((ra_gk (hs28 (D + 5 + v7.toNat) (by omega))).trans ((hp25o 3 (by decide)).trans ((hp22o 3 (by decide)).trans ((hp18o 3 (by decide)).trans ((hp15o 3 (by decide)).trans hp12)))))), ((ra_gk (hs31 (D + 5 + v7.toNat) (by omega))).trans ((ra_gk (hs28 (D + 5 + v7.toNat) (by omega))).trans ((hp25o 4 (by decide)).trans ((hp22o 4 (by decide)).trans ((hp18o 4 (by decide)).trans hp15))))), ((ra_gk (hs31 (D + 5 + v7.toNat) (by omega))).trans ((ra_gk (hs28 (D + 5 + v7.toNat) (by omega))).trans ((hp25o 6 (by decide)).trans hp22))), ((ra_gk (hs31 (D + 5 + v7.toNat) (by omega))).trans ((ra_gk (hs28 (D + 5 + v7.toNat) (by omega))).trans hp25))⟩)⟩⟩
theorem s9_33 {n : Nat} {f : Nat → Int32} {d : Nat} {D : Nat} {x0 : Int} {x1 : Int} {x2 : Int} {x3 : Int} {σ : ra_V} (hD : isD D) (hx0 : ra_in x0) (hx1 : ra_in x1) (hx2 : ra_in x2) (hx3 : ra_in x3) (hst : x4SZ σ D pk) (h8 : pk < 8) : ra_C (g_Gs n f) g_sh 0 (d + 3) 33 [.index (D), ra_I x0, ra_I x1, ra_I x2, ra_I x3] σ (fun r9 s => rI r9 ∧ Fr (D) (D + 13) σ s ∧ x5MK6 σ s D pk.toNat x0 x1 x2 x3) := by
  refine ra_enter (nn := 4) mt_33 rfl (Nat.le_of_ble_eq_true rfl) rfl (fun h => absurd h (by decide +kernel)) ?_
  have hst0 := hst
  obtain ⟨hs1, hs2⟩ := hst0
  refine ra_load rfl rfl rfl rfl ?_
  refine ra_getR rfl lk_0_17 (Nat.zero_le _) (sh_D hD) rfl ?_
  refine ra_store (L' := [_, _, _, _, _, _, _, _, _]) rfl rfl rfl (Nat.le_of_ble_eq_true rfl) rfl ?_
  refine ra_load rfl rfl rfl rfl ?_
  refine ra_alen rfl (sh_D2 hD) rfl ?_
  refine ra_store (L' := [_, _, _, _, _, _, _, _, _]) rfl rfl rfl (Nat.le_of_ble_eq_true rfl) rfl ?_
  refine ra_iconst rfl ?_
  refine ra_store (L' := [_, _, _, _, _, _, _, _, _]) rfl rfl rfl (Nat.le_of_ble_eq_true rfl) rfl ?_
  exact ra_weak (by repeat' constructor) (l9_33_14 hD hx0 hx1 hx2 hx3 hst h8 _ (0) (by first | omega | (unfold ra_in at *; omega)) (by first | omega | (unfold ra_in at *; omega)) (by first | omega | (unfold ra_in at *; omega)) (Nat.lt_succ_self _))
theorem l9_1_89 {n : Nat} {f : Nat → Int32} {d : Nat} {D : Nat} {x0 : Int} {σ : ra_V} (hD : isD D) (hx0 : ra_in x0) : ∀ (nn : Nat) (v2 : Int) (s : ra_V) (hv2_0 : 0 ≤ v2) (hv2_1 : v2 ≤ 600) (hF : Fr (D) (D + 13) σ s) (hv : (ra_g s (D) 4 = x0 ∧ ra_g s (D) 5 = 0 ∧ ra_g s (D) 6 = 0 ∧ ra_g s (D) 7 = 1 ∧ ra_g s (D) 8 = 4) ∧ ra_g s (D) 9 = 0 ∧ ra_g s (D) 10 = 0 ∧ ra_g s (D) 11 = 0 ∧ ra_g s (D) 12 = 0 ∧ ra_g s (D + 3) 0 = -1) (hz : ∀ p : Nat, p < 8 → ra_g s (D + 5 + p) 2 = 0) (hm : ((600 - v2 : Int)).toNat < nn), ra_P (g_Gs n f) g_sh 0 (d + 1) g_m_X0_clear 89 [some (.index (D)), none, some (ra_I v2), none, none, none] [] s (fun r9 s => rV r9 ∧ Fr (D) (D + 13) σ s ∧ ((ra_g s (D) 4 = x0 ∧ ra_g s (D) 5 = 0 ∧ ra_g s (D) 6 = 0 ∧ ra_g s (D) 7 = 1 ∧ ra_g s (D) 8 = 4) ∧ ra_g s (D) 9 = 0 ∧ ra_g s (D) 10 = 0 ∧ ra_g s (D) 11 = 0 ∧ ra_g s (D) 12 = 0 ∧ ra_g s (D + 3) 0 = -1) ∧ ∀ p : Nat, p < 8 → ra_g s (D + 5 + p) 2 = 0) := by
  intro nn
  induction nn with
  | zero => intro v2 s hv2_0 hv2_1 hF hv hz hm; exact absurd hm (Nat.not_lt_zero _)
  | succ nn ih =>
    intro v2 s hv2_0 hv2_1 hF hv hz hm
    refine ra_load rfl rfl rfl rfl ?_
    refine ra_load rfl rfl rfl rfl ?_
    refine ra_getR rfl lk_0_9 (Nat.zero_le _) (sh_D hD) rfl ?_
    refine ra_alen rfl (sh_D1 hD) rfl ?_
    refine ra_icge rfl rfl (by first | omega | (unfold ra_in at *; omega)) (by first | omega | (unfold ra_in at *; omega)) (fun h34 => ?_) (fun h34 => ?_)
    · exact ra_return rfl rfl ⟨rfl, ⟨hF, ⟨⟨(by omega), (by omega), (by omega), (by omega), (by omega)⟩, (by omega), (by omega), (by omega), (by omega), (by omega)⟩, hz⟩⟩
    · refine ra_load rfl rfl rfl rfl ?_
      refine ra_getR rfl lk_0_9 (Nat.zero_le _) (sh_D hD) rfl ?_
      refine ra_load rfl rfl rfl rfl ?_
      refine ra_iconst rfl ?_
      refine ra_iastore rfl (sh_D1 hD) rfl (by decide) (by first | omega | (unfold ra_in at *; omega)) (by first | omega | (unfold ra_in at *; omega)) ?_
      refine ra_new Fr_up (fun s35 hs35 => ?_)
      have hF36 := Fr_tr (lo := D) (hi := D + 13) hF hs35 (by omega)
      have hk37 : s35 (D) = s (D) := (hs35 (D) (by omega))
      have hk38 : s35 (D + 3) = s (D + 3) := (hs35 (D + 3) (by omega))
      refine ra_iinc (L' := [_, _, _, _, _, _]) rfl rfl (Nat.le_of_ble_eq_true rfl) rfl ?_
      refine ra_goto rfl rfl ?_
      exact ra_weak (by repeat' constructor) (ih (v2 + 1) s35 (by first | omega | (unfold ra_in at *; omega)) (by first | omega | (unfold ra_in at *; omega)) hF36 (⟨⟨((ra_gk hk37).trans (by omega)), ((ra_gk hk37).trans (by omega)), ((ra_gk hk37).trans (by omega)), ((ra_gk hk37).trans (by omega)), ((ra_gk hk37).trans (by omega))⟩, ((ra_gk hk37).trans (by omega)), ((ra_gk hk37).trans (by omega)), ((ra_gk hk37).trans (by omega)), ((ra_gk hk37).trans (by omega)), ((ra_gk hk38).trans (by omega))⟩) (fun p hp => (ra_gk (hs35 (D + 5 + p) (by omega))).trans (hz p hp)) (by first | omega | (unfold ra_in at *; omega)))
theorem l9_1_63 {n : Nat} {f : Nat → Int32} {d : Nat} {D : Nat} {x0 : Int} {σ : ra_V} (hD : isD D) (hx0 : ra_in x0) : ∀ (nn : Nat) (v4 : Int) (s : ra_V) (hv4_0 : 0 ≤ v4) (hv4_1 : v4 ≤ 8) (hF : Fr (D) (D + 13) σ s) (hv : (ra_g s (D) 4 = x0 ∧ ra_g s (D) 5 = 0 ∧ ra_g s (D) 6 = 0 ∧ ra_g s (D) 7 = 1 ∧ ra_g s (D) 8 = 4) ∧ ra_g s (D) 9 = 0 ∧ ra_g s (D) 10 = 0 ∧ ra_g s (D) 11 = 0 ∧ ra_g s (D) 12 = 0 ∧ ra_g s (D + 3) 0 = -1) (hz : ∀ p : Nat, (p : Int) < v4 → ra_g s (D + 5 + p) 2 = 0) (hm : ((8 - v4 : Int)).toNat < nn), ra_P (g_Gs n f) g_sh 0 (d + 1) g_m_X0_clear 63 [some (.index (D)), none, some (.index (D + 2)), some (ra_I ((8 : Nat) : Int)), some (ra_I v4), none] [] s (fun r9 s => rV r9 ∧ Fr (D) (D + 13) σ s ∧ ((ra_g s (D) 4 = x0 ∧ ra_g s (D) 5 = 0 ∧ ra_g s (D) 6 = 0 ∧ ra_g s (D) 7 = 1 ∧ ra_g s (D) 8 = 4) ∧ ra_g s (D) 9 = 0 ∧ ra_g s (D) 10 = 0 ∧ ra_g s (D) 11 = 0 ∧ ra_g s (D) 12 = 0 ∧ ra_g s (D + 3) 0 = -1) ∧ ∀ p : Nat, p < 8 → ra_g s (D + 5 + p) 2 = 0) := by
  intro nn
  induction nn with
  | zero => intro v4 s hv4_0 hv4_1 hF hv hz hm; exact absurd hm (Nat.not_lt_zero _)
  | succ nn ih =>
    intro v4 s hv4_0 hv4_1 hF hv hz hm
    refine ra_load rfl rfl rfl rfl ?_
    refine ra_load rfl rfl rfl rfl ?_
    refine ra_icge rfl rfl (by first | omega | (unfold ra_in at *; omega)) (by first | omega | (unfold ra_in at *; omega)) (fun h33 => ?_) (fun h33 => ?_)
    · refine ra_iconst rfl ?_
      refine ra_store (L' := [_, _, _, _, _, _]) rfl rfl rfl (Nat.le_of_ble_eq_true rfl) rfl ?_
      exact ra_weak (by repeat' constructor) (l9_1_89 hD hx0 _ (0) s (by first | omega | (unfold ra_in at *; omega)) (by first | omega | (unfold ra_in at *; omega)) hF (⟨⟨(by omega), (by omega), (by omega), (by omega), (by omega)⟩, (by omega), (by omega), (by omega), (by omega), (by omega)⟩) (fun p hp => hz p (by omega)) (Nat.lt_succ_self _))
    · refine ra_load rfl rfl rfl rfl ?_
      refine ra_load rfl rfl rfl rfl ?_
      refine ra_aaload rfl (sh_D2 hD) rfl (by decide) (by first | omega | (unfold ra_in at *; omega)) (by first | omega | (unfold ra_in at *; omega)) (sh_pt (by first | omega | (unfold ra_in at *; omega)) (by first | omega | (unfold ra_in at *; omega))) rfl ?_
      have hi39 : v4.toNat < 8 := (by first | omega | (unfold ra_in at *; omega))
      refine ra_store (L' := [_, _, _, _, _, _]) rfl rfl rfl (Nat.le_of_ble_eq_true rfl) rfl ?_
      refine ra_load rfl rfl rfl rfl ?_
      refine ra_iconst rfl ?_
      refine ra_putI rfl lk_0_65 (Nat.zero_le _) (sh_P hD hi39) rfl rfl ?_
      refine ra_newU (by first | omega | (unfold ra_in at *; omega)) (fun s40 hs40 hp41 hp41o => ?_)
      have hF42 := Fr_tr (lo := D) (hi := D + 13) hF hs40 (by omega)
      have hk43 : s40 (D) = s (D) := (hs40 (D) (by omega))
      have hk44 : s40 (D + 3) = s (D + 3) := (hs40 (D + 3) (by omega))
      refine ra_iinc (L' := [_, _, _, _, _, _]) rfl rfl (Nat.le_of_ble_eq_true rfl) rfl ?_
      refine ra_goto rfl rfl ?_
      exact ra_weak (by repeat' constructor) (ih (v4 + 1) s40 (by first | omega | (unfold ra_in at *; omega)) (by first | omega | (unfold ra_in at *; omega)) hF42 (⟨⟨((ra_gk hk43).trans (by omega)), ((ra_gk hk43).trans (by omega)), ((ra_gk hk43).trans (by omega)), ((ra_gk hk43).trans (by omega)), ((ra_gk hk43).trans (by omega))⟩, ((ra_gk hk43).trans (by omega)), ((ra_gk hk43).trans (by omega)), ((ra_gk hk43).trans (by omega)), ((ra_gk hk43).trans (by omega)), ((ra_gk hk44).trans (by omega))⟩) (fun p hp => if e : p = v4.toNat then (by rw [e]; exact hp41) else (ra_gk (hs40 (D + 5 + p) (by omega))).trans (hz p (by omega))) (by first | omega | (unfold ra_in at *; omega)))
theorem s9_1 {n : Nat} {f : Nat → Int32} {d : Nat} {D : Nat} {x0 : Int} {σ : ra_V} (hD : isD D) (hx0 : ra_in x0) : ra_C (g_Gs n f) g_sh 0 (d + 2) 1 [.index (D), ra_I x0] σ (fun r9 s => rV r9 ∧ Fr (D) (D + 13) σ s ∧ ((ra_g s (D) 4 = x0 ∧ ra_g s (D) 5 = 0 ∧ ra_g s (D) 6 = 0 ∧ ra_g s (D) 7 = 1 ∧ ra_g s (D) 8 = 4) ∧ ra_g s (D) 9 = 0 ∧ ra_g s (D) 10 = 0 ∧ ra_g s (D) 11 = 0 ∧ ra_g s (D) 12 = 0 ∧ ra_g s (D + 3) 0 = -1) ∧ ∀ p : Nat, p < 8 → ra_g s (D + 5 + p) 2 = 0) := by
  refine ra_enter (nn := 4) mt_1 rfl (Nat.le_of_ble_eq_true rfl) rfl (fun h => absurd h (by decide +kernel)) ?_
  refine ra_load rfl rfl rfl rfl ?_
  refine ra_load rfl rfl rfl rfl ?_
  refine ra_putI rfl lk_0_34 (Nat.zero_le _) (sh_D hD) rfl rfl ?_
  refine ra_newU hx0 (fun s1 hs1 hp2 hp2o => ?_)
  have hp2_5 := hp2o 5 (by decide)
  have hp2_6 := hp2o 6 (by decide)
  have hp2_7 := hp2o 7 (by decide)
  have hp2_8 := hp2o 8 (by decide)
  have hp2_9 := hp2o 9 (by decide)
  have hp2_10 := hp2o 10 (by decide)
  have hp2_11 := hp2o 11 (by decide)
  have hp2_12 := hp2o 12 (by decide)
  have hF3 := Fr_tr (lo := D) (hi := D + 13) Fr_rf hs1 (by omega)
  refine ra_load rfl rfl rfl rfl ?_
  refine ra_iconst rfl ?_
  refine ra_putI rfl lk_0_38 (Nat.zero_le _) (sh_D hD) rfl rfl ?_
  refine ra_newU (by first | omega | (unfold ra_in at *; omega)) (fun s4 hs4 hp5 hp5o => ?_)
  have hp5_4 := hp5o 4 (by decide)
  have hp5_6 := hp5o 6 (by decide)
  have hp5_7 := hp5o 7 (by decide)
  have hp5_8 := hp5o 8 (by decide)
  have hp5_9 := hp5o 9 (by decide)
  have hp5_10 := hp5o 10 (by decide)
  have hp5_11 := hp5o 11 (by decide)
  have hp5_12 := hp5o 12 (by decide)
  have hF6 := Fr_tr (lo := D) (hi := D + 13) hF3 hs4 (by omega)
  refine ra_load rfl rfl rfl rfl ?_
  refine ra_iconst rfl ?_
  refine ra_putI rfl lk_0_41 (Nat.zero_le _) (sh_D hD) rfl rfl ?_
  refine ra_newU (by first | omega | (unfold ra_in at *; omega)) (fun s7 hs7 hp8 hp8o => ?_)
  have hp8_4 := hp8o 4 (by decide)
  have hp8_5 := hp8o 5 (by decide)
  have hp8_7 := hp8o 7 (by decide)
  have hp8_8 := hp8o 8 (by decide)
  have hp8_9 := hp8o 9 (by decide)
  have hp8_10 := hp8o 10 (by decide)
  have hp8_11 := hp8o 11 (by decide)
  have hp8_12 := hp8o 12 (by decide)
  have hF9 := Fr_tr (lo := D) (hi := D + 13) hF6 hs7 (by omega)
  refine ra_load rfl rfl rfl rfl ?_
  refine ra_iconst rfl ?_
  refine ra_putI rfl lk_0_44 (Nat.zero_le _) (sh_D hD) rfl rfl ?_
  refine ra_newU (by first | omega | (unfold ra_in at *; omega)) (fun s10 hs10 hp11 hp11o => ?_)
  have hp11_4 := hp11o 4 (by decide)
  have hp11_5 := hp11o 5 (by decide)
  have hp11_6 := hp11o 6 (by decide)
  have hp11_8 := hp11o 8 (by decide)
  have hp11_9 := hp11o 9 (by decide)
  have hp11_10 := hp11o 10 (by decide)
  have hp11_11 := hp11o 11 (by decide)
  have hp11_12 := hp11o 12 (by decide)
  have hF12 := Fr_tr (lo := D) (hi := D + 13) hF9 hs10 (by omega)
  refine ra_load rfl rfl rfl rfl ?_
  refine ra_iconst rfl ?_
  refine ra_putI rfl lk_0_47 (Nat.zero_le _) (sh_D hD) rfl rfl ?_
  refine ra_newU (by first | omega | (unfold ra_in at *; omega)) (fun s13 hs13 hp14 hp14o => ?_)
  have hp14_4 := hp14o 4 (by decide)
  have hp14_5 := hp14o 5 (by decide)
  have hp14_6 := hp14o 6 (by decide)
  have hp14_7 := hp14o 7 (by decide)
  have hp14_9 := hp14o 9 (by decide)
  have hp14_10 := hp14o 10 (by decide)
  have hp14_11 := hp14o 11 (by decide)
  have hp14_12 := hp14o 12 (by decide)
  have hF15 := Fr_tr (lo := D) (hi := D + 13) hF12 hs13 (by omega)
  refine ra_load rfl rfl rfl rfl ?_
  refine ra_iconst rfl ?_
  refine ra_putI rfl lk_0_50 (Nat.zero_le _) (sh_D hD) rfl rfl ?_
  refine ra_newU (by first | omega | (unfold ra_in at *; omega)) (fun s16 hs16 hp17 hp17o => ?_)
  have hp17_4 := hp17o 4 (by decide)
  have hp17_5 := hp17o 5 (by decide)
  have hp17_6 := hp17o 6 (by decide)
  have hp17_7 := hp17o 7 (by decide)
  have hp17_8 := hp17o 8 (by decide)
  have hp17_10 := hp17o 10 (by decide)
  have hp17_11 := hp17o 11 (by decide)
  have hp17_12 := hp17o 12 (by decide)
  have hF18 := Fr_tr (lo := D) (hi := D + 13) hF15 hs16 (by omega)
  refine ra_load rfl rfl rfl rfl ?_
  refine ra_iconst rfl ?_
  refine ra_putI rfl lk_0_53 (Nat.zero_le _) (sh_D hD) rfl rfl ?_
  refine ra_newU (by first | omega | (unfold ra_in at *; omega)) (fun s19 hs19 hp20 hp20o => ?_)
  have hp20_4 := hp20o 4 (by decide)
  have hp20_5 := hp20o 5 (by decide)
  have hp20_6 := hp20o 6 (by decide)
  have hp20_7 := hp20o 7 (by decide)
  have hp20_8 := hp20o 8 (by decide)
  have hp20_9 := hp20o 9 (by decide)
  have hp20_11 := hp20o 11 (by decide)
  have hp20_12 := hp20o 12 (by decide)
  have hF21 := Fr_tr (lo := D) (hi := D + 13) hF18 hs19 (by omega)
  refine ra_load rfl rfl rfl rfl ?_
  refine ra_iconst rfl ?_
  refine ra_putI rfl lk_0_56 (Nat.zero_le _) (sh_D hD) rfl rfl ?_
  refine ra_newU (by first | omega | (unfold ra_in at *; omega)) (fun s22 hs22 hp23 hp23o => ?_)
  have hp23_4 := hp23o 4 (by decide)
  have hp23_5 := hp23o 5 (by decide)
  have hp23_6 := hp23o 6 (by decide)
  have hp23_7 := hp23o 7 (by decide)
  have hp23_8 := hp23o 8 (by decide)
  have hp23_9 := hp23o 9 (by decide)
  have hp23_10 := hp23o 10 (by decide)
  have hp23_12 := hp23o 12 (by decide)
  have hF24 := Fr_tr (lo := D) (hi := D + 13) hF21 hs22 (by omega)
  refine ra_load rfl rfl rfl rfl ?_
  refine ra_iconst rfl ?_
  refine ra_putI rfl lk_0_59 (Nat.zero_le _) (sh_D hD) rfl rfl ?_
  refine ra_newU (by first | omega | (unfold ra_in at *; omega)) (fun s25 hs25 hp26 hp26o => ?_)
  have hp26_4 := hp26o 4 (by decide)
  have hp26_5 := hp26o 5 (by decide)
  have hp26_6 := hp26o 6 (by decide)
  have hp26_7 := hp26o 7 (by decide)
  have hp26_8 := hp26o 8 (by decide)
  have hp26_9 := hp26o 9 (by decide)
  have hp26_10 := hp26o 10 (by decide)
  have hp26_11 := hp26o 11 (by decide)
  have hF27 := Fr_tr (lo := D) (hi := D + 13) hF24 hs25 (by omega)
  refine ra_load rfl rfl rfl rfl ?_
  refine ra_getR rfl lk_0_24 (Nat.zero_le _) (sh_D hD) rfl ?_
  refine ra_cV (s5_68 hD) rfl (ct_68 rfl lk_0_62 (Or.inl rfl) (sh_D3 hD) (Nat.le_of_ble_eq_true rfl)) (fun s28 hs28 => ?_)
  obtain ⟨hf29, he30⟩ := hs28
  have hF31 := Fr_tr (lo := D) (hi := D + 13) hF27 hf29 (by omega)
  have hk32 : s28 (D) = s25 (D) := (hf29 (D) (by omega))
  refine ra_load rfl rfl rfl rfl ?_
  refine ra_getR rfl lk_0_17 (Nat.zero_le _) (sh_D hD) rfl ?_
  refine ra_store (L' := [_, _, _, _, _, _]) rfl rfl rfl (Nat.le_of_ble_eq_true rfl) rfl ?_
  refine ra_load rfl rfl rfl rfl ?_
  refine ra_alen rfl (sh_D2 hD) rfl ?_
  refine ra_store (L' := [_, _, _, _, _, _]) rfl rfl rfl (Nat.le_of_ble_eq_true rfl) rfl ?_
  refine ra_iconst rfl ?_
  refine ra_store (L' := [_, _, _, _, _, _]) rfl rfl rfl (Nat.le_of_ble_eq_true rfl) rfl ?_
  exact ra_weak (by repeat' constructor) (l9_1_63 hD hx0 _ (0) s28 (by first | omega | (unfold ra_in at *; omega)) (by first | omega | (unfold ra_in at *; omega)) hF31 (⟨⟨((ra_gk hk32).trans (by omega)), ((ra_gk hk32).trans (by omega)), ((ra_gk hk32).trans (by omega)), ((ra_gk hk32).trans (by omega)), ((ra_gk hk32).trans (by omega))⟩, ((ra_gk hk32).trans (by omega)), ((ra_gk hk32).trans (by omega)), ((ra_gk hk32).trans (by omega)), ((ra_gk hk32).trans (by omega)), he30⟩) (fun p hp => by omega) (Nat.lt_succ_self _))
end
