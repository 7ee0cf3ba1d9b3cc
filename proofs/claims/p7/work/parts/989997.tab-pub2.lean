/-! T5: the class's calls that change something (printed by wip/gen/c7.py) -/
section
variable {τ : ra_V} {nh : Int} {R : Nat → ra_V}
theorem s5_150 {n : Nat} {f : Nat → Int32} {d : Nat} {x0 : Int} {x1 : Int} {σ : ra_V} (hx0 : ra_in x0) (hx1 : ra_in x1) (hT : x5CT τ σ 1) (hW : x5W2 τ) (hH : x5HQ nh R σ) : ra_C (g_Gs n f) g_sh 0 (d + 7) 150 [.index (0), ra_I x0, ra_I x1] σ (fun r s => x5CO (x5dcSp τ x0 x1) (fun z => z = x5nfr (x5up τ (24 + 8 * x0 + 2).toNat x1)) "java/lang/IllegalArgumentException" "java/lang/IllegalStateException" "java/util/NoSuchElementException" (x5mkV (x5up τ (24 + 8 * x0 + 2).toNat x1) (x5nfr (x5up τ (24 + 8 * x0 + 2).toNat x1)) (wq τ x0 1 + x1) (wq τ x0 2 - x1) (wq τ x0 4) 1) τ nh R σ s r) := by
  refine ra_enter (nn := 2) mt_150 rfl (Nat.le_of_ble_eq_true rfl) rfl (fun _ => by omega) ?_
  have hwa := WF_a hW.1
  unfold WFa at hwa
  refine ra_load rfl rfl rfl rfl ?_
  refine ra_load rfl rfl rfl rfl ?_
  refine x5cXNp (s5_176 hx0 hT) rfl (ct_176 rfl lk_7_135 (Or.inl rfl) sh_0 (Nat.le_of_ble_eq_true rfl)) rfl (fun j2 hj2 hj2y => ?_) (fun hj2n => ?_)
  · have ej := hj2y.1
    have heq : wq τ (j2 : Int) 0 = 1 := by rw [ej]; exact hj2y.2
    have hx0e : x5EX τ x0 := ⟨by omega, by omega, hj2y.2⟩
    have hpj := x5CT_p hT (p := j2) hj2 heq
    rw [ej] at hpj
    have hpw := WF_p hW.1 (p := x0) (by omega) (by omega) hx0e.2.2
    refine ra_store (L' := [_, _, _, _, _]) rfl rfl rfl (Nat.le_of_ble_eq_true rfl) rfl ?_
    refine ra_load rfl rfl rfl rfl ?_
    refine ra_load rfl rfl rfl rfl ?_
    refine ra_getI rfl lk_7_147 (Nat.zero_le _) (sh_P isD_1 hj2) rfl ?_
    rw [show (ra_g σ (1 + 5 + j2) 3) = wq τ x0 3 from hpj.2.2.1]
    have hr3 : ra_in (wq τ x0 3) := (ra_in_wq _ _ _)
    refine ra_iclt rfl rfl hx1 hr3 (fun h4 => ?_) (fun h4 => ?_)
    · exact ra_throw (E := "java/lang/IllegalArgumentException") rfl lk_7_128 (by decide +kernel) (fun _ => rfl) (x5co_1 (fun c c1 => rfl) (fun c c1 => rfl) ((x5cif_n (fun q => q hx0e)).trans (x5cif_y (by omega))))
    · refine ra_load rfl rfl rfl rfl ?_
      refine ra_load rfl rfl rfl rfl ?_
      refine ra_getI rfl lk_7_144 (Nat.zero_le _) (sh_P isD_1 hj2) rfl ?_
      rw [show (ra_g σ (1 + 5 + j2) 2) = wq τ x0 2 from hpj.2.1]
      have hr5 : ra_in (wq τ x0 2) := (ra_in_wq _ _ _)
      refine ra_iclt rfl rfl hx1 hr5 (fun h6 => ?_) (fun h6 => ?_)
      · refine ra_load rfl rfl rfl rfl ?_
        refine ra_load rfl rfl rfl rfl ?_
        refine x5cXVp (s5_181 hj2 hT hW heq) rfl (ct_181 rfl lk_7_272 (Or.inl rfl) sh_0 (Nat.le_of_ble_eq_true rfl)) rfl (fun hj8y => ?_) (fun hj8n => ?_)
        · refine ra_load rfl rfl rfl rfl ?_
          refine ra_getR rfl lk_7_10 (Nat.zero_le _) sh_0 rfl ?_
          refine ra_load rfl rfl rfl rfl ?_
          refine ra_getI rfl lk_7_139 (Nat.zero_le _) (sh_P isD_1 hj2) rfl ?_
          rw [show (ra_g σ (1 + 5 + j2) 1) = wq τ x0 1 from hpj.1]
          have hr9 : ra_in (wq τ x0 1) := (ra_in_wq _ _ _)
          refine ra_load rfl rfl rfl rfl ?_
          refine ra_iadd rfl ?_
          refine ra_cQPp (s5_11 isD_1 (by first | omega | (unfold ra_in at *; omega)) hT hW (by omega)) rfl (ct_11 rfl lk_7_298 (Or.inl rfl) (sh_D isD_1) (Nat.le_of_ble_eq_true rfl)) (fun z11 hz11 hz11p => ?_)
          refine ra_ifne rfl rfl (ra_in01 hz11) (fun h12 => ?_) (fun h12 => ?_)
          · refine ra_load rfl rfl rfl rfl ?_
            refine x5cXVp (s5_180 hT hW) rfl (ct_180 rfl lk_7_257 (Or.inl rfl) sh_0 (Nat.le_of_ble_eq_true rfl)) rfl (fun hj14y => ?_) (fun hj14n => ?_)
            · refine ra_load rfl rfl rfl rfl ?_
              refine ra_getR rfl lk_7_25 (Nat.zero_le _) sh_0 rfl ?_
              refine ra_load rfl rfl rfl rfl ?_
              refine ra_getR rfl lk_7_10 (Nat.zero_le _) sh_0 rfl ?_
              refine ra_cV (s5_62 isD_1 rfl hT hW hH) rfl (ct_62 rfl lk_7_260 (Or.inl rfl) sh_40 (Nat.le_of_ble_eq_true rfl)) (fun s15 hs15 => ?_)
              obtain ⟨hf16, he17⟩ := hs15
              have hF18 := Fr_tr (lo := 1) (hi := 175) Fr_rf hf16 (by omega)
              refine ra_load rfl rfl rfl rfl ?_
              refine ra_getI rfl lk_7_144 (Nat.zero_le _) (sh_P isD_1 hj2) rfl ?_
              rw [show (ra_g s15 (1 + 5 + j2) 2) = (ra_g σ (1 + 5 + j2) 2) from (ra_gk (hf16 (1 + 5 + j2) (by omega)))]
              rw [show (ra_g σ (1 + 5 + j2) 2) = wq τ x0 2 from hpj.2.1]
              have hr19 : ra_in (wq τ x0 2) := (ra_in_wq _ _ _)
              refine ra_load rfl rfl rfl rfl ?_
              refine ra_isub rfl ?_
              refine ra_store (L' := [_, _, _, _, _]) rfl rfl rfl (Nat.le_of_ble_eq_true rfl) rfl ?_
              refine ra_load rfl rfl rfl rfl ?_
              refine ra_load rfl rfl rfl rfl ?_
              refine ra_putI rfl lk_7_144 (Nat.zero_le _) (sh_P isD_1 hj2) rfl rfl ?_
              refine ra_newU hx1 (fun s20 hs20 hp21 hp21o => ?_)
              have hF22 := Fr_tr (lo := 1) (hi := 175) hF18 hs20 (by omega)
              refine ra_load rfl rfl rfl rfl ?_
              refine ra_getR rfl lk_7_10 (Nat.zero_le _) sh_0 rfl ?_
              refine ra_load rfl rfl rfl rfl ?_
              refine ra_getI rfl lk_7_139 (Nat.zero_le _) (sh_P isD_1 hj2) rfl ?_
              rw [show (ra_g s20 (1 + 5 + j2) 1) = (ra_g σ (1 + 5 + j2) 1) from ((hp21o 1 (by decide)).trans (ra_gk (hf16 (1 + 5 + j2) (by omega))))]
              rw [show (ra_g σ (1 + 5 + j2) 1) = wq τ x0 1 from hpj.1]
              have hr23 : ra_in (wq τ x0 1) := (ra_in_wq _ _ _)
              refine ra_load rfl rfl rfl rfl ?_
              refine ra_iadd rfl ?_
              refine ra_load rfl rfl rfl rfl ?_
              refine ra_load rfl rfl rfl rfl ?_
              refine ra_getI rfl lk_7_150 (Nat.zero_le _) (sh_P isD_1 hj2) rfl ?_
              rw [show (ra_g s20 (1 + 5 + j2) 4) = (ra_g σ (1 + 5 + j2) 4) from ((hp21o 4 (by decide)).trans (ra_gk (hf16 (1 + 5 + j2) (by omega))))]
              rw [show (ra_g σ (1 + 5 + j2) 4) = wq τ x0 4 from hpj.2.2.2.1]
              have hr24 : ra_in (wq τ x0 4) := (ra_in_wq _ _ _)
              refine ra_iconst rfl ?_
              refine ra_cT (s5_33 isD_1 (by first | omega | (unfold ra_in at *; omega)) (by first | omega | (unfold ra_in at *; omega)) hr24 (by first | omega | (unfold ra_in at *; omega)) (show x5CT (x5up τ (24 + 8 * x0 + 2).toNat x1) s20 1 from x5ct_upP (p := j2) (w := 2) (x5CT_e4 (fun c c1 c2 c3 c4 => (hf16 c (by omega))) hT) hW.1 hj2 (by omega) (by omega) (by omega) heq (fun _ => (fun q9 => hj8y (Or.inr q9))) (fun c c1 c2 c3 c4 => hs20 c (by omega)) hp21 (fun a ha => hp21o a ha) (fun _ => (by omega : (0 : Int) < x1))) (x5w2_sz hW hx0e (by have q9 := (fun q9 => hj8y (Or.inr q9)); rw [ej] at q9; exact q9) ⟨by omega, by omega⟩ rfl) (x5fre_sz (x5full_n hW.1 hj14y) hx0e) (by omega)) rfl (ct_33 rfl lk_7_263 (Or.inl rfl) (sh_D isD_1) (Nat.le_of_ble_eq_true rfl)) (fun s25 hs25 => ?_)
              obtain ⟨hf26, he27⟩ := hs25
              have hF28 := Fr_tr (lo := 1) (hi := 175) hF22 hf26 (by omega)
              have hr29 : ra_in (x5nfr (x5up τ (24 + 8 * x0 + 2).toNat x1)) := (x5nfr_in)
              exact ra_ireturn rfl rfl (x5co_y (fun c c1 => ((hf26 c (by omega)).trans ((hs20 c (by omega)).trans (hf16 c (by omega))))) ((x5cif_n (fun q => q hx0e)).trans ((x5cif_n (fun q => q (by omega))).trans ((x5cif_n (by have q9 := hj8y; rw [ej] at q9; exact q9)).trans ((x5cif_n (fun q9 => q9 (hz11p.mp (by omega)))).trans (x5cif_n hj14y))))) hr29 rfl he27 (x5hq_k (fun c c1 c2 => ((hf26 c (by omega)).trans (hs20 c (by omega)))) he17))
            · exact (x5co_2 (fun c c1 => rfl) (fun c c1 => rfl) ((x5cif_n (fun q => q hx0e)).trans ((x5cif_n (fun q => q (by omega))).trans ((x5cif_n (by have q9 := hj8y; rw [ej] at q9; exact q9)).trans ((x5cif_n (fun q9 => q9 (hz11p.mp (by omega)))).trans (x5cif_y hj14n))))))
          · exact ra_throw (E := "java/lang/IllegalStateException") rfl lk_7_267 (by decide +kernel) (fun _ => rfl) (x5co_2 (fun c c1 => rfl) (fun c c1 => rfl) ((x5cif_n (fun q => q hx0e)).trans ((x5cif_n (fun q => q (by omega))).trans ((x5cif_n (by have q9 := hj8y; rw [ej] at q9; exact q9)).trans (x5cif_y (fun q9 => absurd (hz11p.mpr q9) (by omega)))))))
        · exact (x5co_2 (fun c c1 => rfl) (fun c c1 => rfl) ((x5cif_n (fun q => q hx0e)).trans ((x5cif_n (fun q => q (by omega))).trans (x5cif_y (by have q9 := hj8n; rw [ej] at q9; exact q9)))))
      · exact ra_throw (E := "java/lang/IllegalArgumentException") rfl lk_7_128 (by decide +kernel) (fun _ => rfl) (x5co_1 (fun c c1 => rfl) (fun c c1 => rfl) ((x5cif_n (fun q => q hx0e)).trans (x5cif_y (by omega))))
  · exact (x5co_3 (fun c c1 => rfl) (fun c c1 => rfl) (x5cif_y hj2n))
theorem s5_151 {n : Nat} {f : Nat → Int32} {d : Nat} {x0 : Int} {σ : ra_V} (hx0 : ra_in x0) (hT : x5CT τ σ 1) (hW : x5W2 τ) (hH : x5HQ nh R σ) : ra_C (g_Gs n f) g_sh 0 (d + 7) 151 [.index (0), ra_I x0] σ (fun r s => x5CO (x5dcJn τ x0) (fun z => z = x5jnF τ x0) "java/lang/IllegalStateException" "java/util/NoSuchElementException" "" (x5up (x5up τ (24 + 8 * x5jnF τ x0 + 0).toNat 0) (24 + 8 * x0 + 2).toNat (wq τ x0 2 + wq τ (x5jnF τ x0) 2)) τ nh R σ s r) := by
  refine ra_enter (nn := 3) mt_151 rfl (Nat.le_of_ble_eq_true rfl) rfl (fun _ => by omega) ?_
  have hwa := WF_a hW.1
  unfold WFa at hwa
  refine ra_load rfl rfl rfl rfl ?_
  refine ra_load rfl rfl rfl rfl ?_
  refine x5cXNp (s5_176 hx0 hT) rfl (ct_176 rfl lk_7_135 (Or.inl rfl) sh_0 (Nat.le_of_ble_eq_true rfl)) rfl (fun j2 hj2 hj2y => ?_) (fun hj2n => ?_)
  · have ej := hj2y.1
    have heq : wq τ (j2 : Int) 0 = 1 := by rw [ej]; exact hj2y.2
    have hx0e : x5EX τ x0 := ⟨by omega, by omega, hj2y.2⟩
    have hpj := x5CT_p hT (p := j2) hj2 heq
    rw [ej] at hpj
    have hpw := WF_p hW.1 (p := x0) (by omega) (by omega) hx0e.2.2
    refine ra_store (L' := [_, _, _, _, _]) rfl rfl rfl (Nat.le_of_ble_eq_true rfl) rfl ?_
    refine ra_load rfl rfl rfl rfl ?_
    refine ra_getR rfl lk_7_10 (Nat.zero_le _) sh_0 rfl ?_
    refine ra_load rfl rfl rfl rfl ?_
    refine ra_getI rfl lk_7_139 (Nat.zero_le _) (sh_P isD_1 hj2) rfl ?_
    rw [show (ra_g σ (1 + 5 + j2) 1) = wq τ x0 1 from hpj.1]
    have hr3 : ra_in (wq τ x0 1) := (ra_in_wq _ _ _)
    refine x5cPCp (s5_6 isD_1 hr3 hT hW) rfl (ct_6 rfl lk_7_187 (Or.inl rfl) (sh_D isD_1) (Nat.le_of_ble_eq_true rfl)) (fun hj5n => ?_) (fun j5 hj5 hj5b => ?_)
    · refine ra_store (L' := [_, _, _, _, _]) rfl rfl rfl (Nat.le_of_ble_eq_true rfl) rfl ?_
      refine ra_load rfl rfl rfl rfl ?_
      refine ra_nullT rfl rfl ?_
      exact ra_throw (E := "java/lang/IllegalStateException") rfl lk_7_267 (by decide +kernel) (fun _ => rfl) (x5co_1 (fun c c1 => rfl) (fun c c1 => rfl) ((x5cif_n (fun q => q hx0e)).trans (x5cif_y (x5jq_a hW.1 hx0e hj5n))))
    · refine ra_store (L' := [_, _, _, _, _]) rfl rfl rfl (Nat.le_of_ble_eq_true rfl) rfl ?_
      refine ra_load rfl rfl rfl rfl ?_
      refine ra_nullF rfl rfl ?_
      have hnb := hj5b.1.resolve_left (by omega)
      have hqe : wq τ (j5 : Int) 0 = 1 := hnb.2.2.1
      have hqj := x5CT_p hT (p := j5) hj5 hqe
      have hqw := WF_p hW.1 (p := (j5 : Int)) (by omega) (by omega) hqe
      have ee1 : wq τ (j2 : Int) 1 = wq τ x0 1 := by rw [ej]
      have ee2 : wq τ (j2 : Int) 2 = wq τ x0 2 := by rw [ej]
      have hne : j2 ≠ j5 := fun e => by have q9 := hnb.2.2.2; rw [← e] at q9; omega
      refine ra_load rfl rfl rfl rfl ?_
      refine ra_getI rfl lk_7_139 (Nat.zero_le _) (sh_P isD_1 hj5) rfl ?_
      rw [show (ra_g σ (1 + 5 + j5) 1) = wq τ j5 1 from hqj.1]
      have hr6 : ra_in (wq τ j5 1) := (ra_in_wq _ _ _)
      refine ra_load rfl rfl rfl rfl ?_
      refine ra_cTp (s5_93 isD_1 hj2 hT hW heq) rfl (ct_93 rfl lk_7_303 (Or.inl rfl) (sh_P isD_1 hj2) (Nat.le_of_ble_eq_true rfl)) ?_
      have hr8 : ra_in (wq τ j2 1 + wq τ j2 2) := (by unfold ra_in; omega)
      refine ra_iceq rfl rfl hr6 hr8 (fun h9 => ?_) (fun h9 => ?_)
      · refine ra_load rfl rfl rfl rfl ?_
        refine ra_getI rfl lk_7_150 (Nat.zero_le _) (sh_P isD_1 hj5) rfl ?_
        rw [show (ra_g σ (1 + 5 + j5) 4) = wq τ j5 4 from hqj.2.2.2.1]
        have hr10 : ra_in (wq τ j5 4) := (ra_in_wq _ _ _)
        refine ra_load rfl rfl rfl rfl ?_
        refine ra_getI rfl lk_7_150 (Nat.zero_le _) (sh_P isD_1 hj2) rfl ?_
        rw [show (ra_g σ (1 + 5 + j2) 4) = wq τ x0 4 from hpj.2.2.2.1]
        have hr11 : ra_in (wq τ x0 4) := (ra_in_wq _ _ _)
        refine ra_iceq rfl rfl hr10 hr11 (fun h12 => ?_) (fun h12 => ?_)
        · refine ra_load rfl rfl rfl rfl ?_
          refine ra_load rfl rfl rfl rfl ?_
          refine x5cXVp (s5_181 hj2 hT hW heq) rfl (ct_181 rfl lk_7_272 (Or.inl rfl) sh_0 (Nat.le_of_ble_eq_true rfl)) rfl (fun hj14y => ?_) (fun hj14n => ?_)
          · have hfp := hj14y
            refine ra_load rfl rfl rfl rfl ?_
            refine ra_load rfl rfl rfl rfl ?_
            refine x5cXVp (s5_181 hj5 hT hW hqe) rfl (ct_181 rfl lk_7_272 (Or.inl rfl) sh_0 (Nat.le_of_ble_eq_true rfl)) rfl (fun hj16y => ?_) (fun hj16n => ?_)
            · refine ra_load rfl rfl rfl rfl ?_
              refine ra_getR rfl lk_7_25 (Nat.zero_le _) sh_0 rfl ?_
              refine ra_load rfl rfl rfl rfl ?_
              refine ra_getR rfl lk_7_10 (Nat.zero_le _) sh_0 rfl ?_
              refine ra_cV (s5_62 isD_1 rfl hT hW hH) rfl (ct_62 rfl lk_7_260 (Or.inl rfl) sh_40 (Nat.le_of_ble_eq_true rfl)) (fun s17 hs17 => ?_)
              obtain ⟨hf18, he19⟩ := hs17
              have hF20 := Fr_tr (lo := 1) (hi := 175) Fr_rf hf18 (by omega)
              refine ra_load rfl rfl rfl rfl ?_
              refine ra_getI rfl lk_7_144 (Nat.zero_le _) (sh_P isD_1 hj2) rfl ?_
              rw [show (ra_g s17 (1 + 5 + j2) 2) = (ra_g σ (1 + 5 + j2) 2) from (ra_gk (hf18 (1 + 5 + j2) (by omega)))]
              rw [show (ra_g σ (1 + 5 + j2) 2) = wq τ x0 2 from hpj.2.1]
              have hr21 : ra_in (wq τ x0 2) := (ra_in_wq _ _ _)
              refine ra_load rfl rfl rfl rfl ?_
              refine ra_getI rfl lk_7_144 (Nat.zero_le _) (sh_P isD_1 hj5) rfl ?_
              rw [show (ra_g s17 (1 + 5 + j5) 2) = (ra_g σ (1 + 5 + j5) 2) from (ra_gk (hf18 (1 + 5 + j5) (by omega)))]
              rw [show (ra_g σ (1 + 5 + j5) 2) = wq τ j5 2 from hqj.2.1]
              have hr22 : ra_in (wq τ j5 2) := (ra_in_wq _ _ _)
              refine ra_iadd rfl ?_
              refine ra_store (L' := [_, _, _, _, _]) rfl rfl rfl (Nat.le_of_ble_eq_true rfl) rfl ?_
              refine ra_load rfl rfl rfl rfl ?_
              refine ra_iconst rfl ?_
              refine ra_putI rfl lk_7_144 (Nat.zero_le _) (sh_P isD_1 hj5) rfl rfl ?_
              refine ra_newU (by first | omega | (unfold ra_in at *; omega)) (fun s23 hs23 hp24 hp24o => ?_)
              have hF25 := Fr_tr (lo := 1) (hi := 175) hF20 hs23 (by omega)
              refine ra_load rfl rfl rfl rfl ?_
              refine ra_getR rfl lk_7_10 (Nat.zero_le _) sh_0 rfl ?_
              refine ra_load rfl rfl rfl rfl ?_
              refine ra_load rfl rfl rfl rfl ?_
              refine ra_cV (s5_34 isD_1 hj2 (by first | omega | (unfold ra_in at *; omega)) (show x5CT (x5up τ (24 + 8 * (j5 : Int) + 0).toNat 0) s23 1 from x5ct_rm (p := j5) (x5CT_e4 (fun c c1 c2 c3 c4 => (hf18 c (by omega))) hT) hW.1 hj5 (by omega) (fun q9 => hj16y (Or.inr q9)) (fun c c1 c2 c3 c4 => hs23 c (by omega)) hp24) (x5w2_rm hW ⟨by omega, by omega, hqe⟩ (fun q9 => hj16y (Or.inr q9)) rfl) (show wq (x5up τ (24 + 8 * (j5 : Int) + 0).toNat 0) (j2 : Int) 0 = 1 from (x5up_wn (by omega)).trans heq) (show ra_g (x5up τ (24 + 8 * (j5 : Int) + 0).toNat 0) 180 16 ≠ (j2 : Int) from by rw [x5uo_n (by omega)]; exact fun q9 => hfp (Or.inr q9)) (by omega)) rfl (ct_34 rfl lk_7_283 (Or.inl rfl) (sh_D isD_1) (Nat.le_of_ble_eq_true rfl)) (fun s26 hs26 => ?_)
              obtain ⟨hf27, he28⟩ := hs26
              have hF29 := Fr_tr (lo := 1) (hi := 175) hF25 hf27 (by omega)
              refine ra_load rfl rfl rfl rfl ?_
              refine ra_getK rfl lk_7_190 (Nat.zero_le _) (sh_P isD_1 hj5) rfl ?_
              exact ra_ireturn rfl rfl (x5co_y (fun c c1 => ((hf27 c (by omega)).trans ((hs23 c (by omega)).trans (hf18 c (by omega))))) ((x5cif_n (fun q => q hx0e)).trans (x5cif_n (fun q9 => q9 ⟨_, (show x5CJ2 τ x0 (j5 : Int) from ⟨⟨by omega, by omega, hqe, by omega⟩, by omega, by have q9 := hfp; rw [ej] at q9; exact q9, hj16y⟩)⟩))) (by first | omega | (unfold ra_in at *; omega)) (x5jn_f hW.1 hx0e (show x5CJ2 τ x0 (j5 : Int) from ⟨⟨by omega, by omega, hqe, by omega⟩, by omega, by have q9 := hfp; rw [ej] at q9; exact q9, hj16y⟩)) (by rw [← x5jn_f hW.1 hx0e (show x5CJ2 τ x0 (j5 : Int) from ⟨⟨by omega, by omega, hqe, by omega⟩, by omega, by have q9 := hfp; rw [ej] at q9; exact q9, hj16y⟩)]; have q9 := he28; rw [ej] at q9; exact q9) (x5hq_k (fun c c1 c2 => ((hf27 c (by omega)).trans (hs23 c (by omega)))) he19))
            · exact (x5co_1 (fun c c1 => rfl) (fun c c1 => rfl) ((x5cif_n (fun q => q hx0e)).trans (x5cif_y (by first | exact x5jq_c hW.1 hx0e hj5b (by omega) (by omega) (Or.inr (Or.inr hj16n)) | exact x5jq_c hW.1 hx0e hj5b (by omega) (by omega) (Or.inr (Or.inl (by have q9 := hj16n; rw [ej] at q9; exact q9)))))))
          · exact (x5co_1 (fun c c1 => rfl) (fun c c1 => rfl) ((x5cif_n (fun q => q hx0e)).trans (x5cif_y (by first | exact x5jq_c hW.1 hx0e hj5b (by omega) (by omega) (Or.inr (Or.inr hj14n)) | exact x5jq_c hW.1 hx0e hj5b (by omega) (by omega) (Or.inr (Or.inl (by have q9 := hj14n; rw [ej] at q9; exact q9)))))))
        · exact ra_throw (E := "java/lang/IllegalStateException") rfl lk_7_267 (by decide +kernel) (fun _ => rfl) (x5co_1 (fun c c1 => rfl) (fun c c1 => rfl) ((x5cif_n (fun q => q hx0e)).trans (x5cif_y (by first | exact x5jq_b hW.1 hx0e hj5b (by omega) (by omega) | exact x5jq_c hW.1 hx0e hj5b (by omega) (by omega) (Or.inl (by omega))))))
      · exact ra_throw (E := "java/lang/IllegalStateException") rfl lk_7_267 (by decide +kernel) (fun _ => rfl) (x5co_1 (fun c c1 => rfl) (fun c c1 => rfl) ((x5cif_n (fun q => q hx0e)).trans (x5cif_y (by first | exact x5jq_b hW.1 hx0e hj5b (by omega) (by omega) | exact x5jq_c hW.1 hx0e hj5b (by omega) (by omega) (Or.inl (by omega))))))
  · exact (x5co_2 (fun c c1 => rfl) (fun c c1 => rfl) (x5cif_y hj2n))
end
