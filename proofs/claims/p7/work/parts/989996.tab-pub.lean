/-! T5: the class's calls that change something (printed by wip/gen/c7.py) -/
section
variable {τ : ra_V} {nh : Int} {R : Nat → ra_V}
theorem s5_140 {n : Nat} {f : Nat → Int32} {d : Nat} {x0 : Int} {x1 : Int} {x2 : Int} {x3 : Int} {σ : ra_V} (hx0 : ra_in x0) (hx1 : ra_in x1) (hx2 : ra_in x2) (hx3 : ra_in x3) (hT : x5CT τ σ 1) (hW : x5W2 τ) (hH : x5HQ nh R σ) : ra_C (g_Gs n f) g_sh 0 (d + 7) 140 [.index (0), ra_I x0, ra_I x1, ra_I x2, ra_I x3] σ (fun r s => x5CO (x5dcAdd τ x0 x1 x2 x3) (fun z => z = x5nfr τ) "java/lang/IllegalArgumentException" "java/lang/IllegalStateException" "" (x5mkV τ (x5nfr τ) x0 x1 x2 x3) τ nh R σ s r) := by
  refine ra_enter (nn := 0) mt_140 rfl (Nat.le_of_ble_eq_true rfl) rfl (fun _ => by omega) ?_
  refine ra_load rfl rfl rfl rfl ?_
  refine ra_load rfl rfl rfl rfl ?_
  refine ra_load rfl rfl rfl rfl ?_
  refine ra_load rfl rfl rfl rfl ?_
  refine x5cXVp (s5_178 hx2 hx3 hx1) rfl (ct_178 rfl lk_7_251 (Or.inl rfl) sh_0 (Nat.le_of_ble_eq_true rfl)) rfl (fun hj2y => ?_) (fun hj2n => ?_)
  · refine ra_load rfl rfl rfl rfl ?_
    refine ra_getR rfl lk_7_10 (Nat.zero_le _) sh_0 rfl ?_
    refine ra_load rfl rfl rfl rfl ?_
    refine ra_load rfl rfl rfl rfl ?_
    refine ra_cTp (s5_16 isD_1 hx0 hx1 hT hW) rfl (ct_16 rfl lk_7_248 (Or.inl rfl) (sh_D isD_1) (Nat.le_of_ble_eq_true rfl)) ?_
    refine ra_ifeq rfl rfl x5why_in (fun h4 => ?_) (fun h4 => ?_)
    · refine ra_load rfl rfl rfl rfl ?_
      refine x5cXVp (s5_180 hT hW) rfl (ct_180 rfl lk_7_257 (Or.inl rfl) sh_0 (Nat.le_of_ble_eq_true rfl)) rfl (fun hj6y => ?_) (fun hj6n => ?_)
      · refine ra_load rfl rfl rfl rfl ?_
        refine ra_getR rfl lk_7_25 (Nat.zero_le _) sh_0 rfl ?_
        refine ra_load rfl rfl rfl rfl ?_
        refine ra_getR rfl lk_7_10 (Nat.zero_le _) sh_0 rfl ?_
        refine ra_cV (s5_62 isD_1 rfl hT hW hH) rfl (ct_62 rfl lk_7_260 (Or.inl rfl) sh_40 (Nat.le_of_ble_eq_true rfl)) (fun s7 hs7 => ?_)
        obtain ⟨hf8, he9⟩ := hs7
        have hF10 := Fr_tr (lo := 1) (hi := 175) Fr_rf hf8 (by omega)
        refine ra_load rfl rfl rfl rfl ?_
        refine ra_getR rfl lk_7_10 (Nat.zero_le _) sh_0 rfl ?_
        refine ra_load rfl rfl rfl rfl ?_
        refine ra_load rfl rfl rfl rfl ?_
        refine ra_load rfl rfl rfl rfl ?_
        refine ra_load rfl rfl rfl rfl ?_
        refine ra_cT (s5_33 isD_1 hx0 hx1 hx2 hx3 (x5CT_e4 (fun c c1 c2 c3 c4 => (hf8 c (by omega))) hT) hW (x5full_n hW.1 hj6y) (by have q9 := hj2y; unfold x5TLD at q9; omega)) rfl (ct_33 rfl lk_7_263 (Or.inl rfl) (sh_D isD_1) (Nat.le_of_ble_eq_true rfl)) (fun s11 hs11 => ?_)
        obtain ⟨hf12, he13⟩ := hs11
        have hF14 := Fr_tr (lo := 1) (hi := 175) hF10 hf12 (by omega)
        have hr15 : ra_in (x5nfr τ) := (x5nfr_in)
        exact ra_ireturn rfl rfl (x5co_y (fun c c1 => ((hf12 c (by omega)).trans (hf8 c (by omega)))) ((x5cif_n (fun q => q hj2y)).trans ((x5cif_n (fun q => q (by omega))).trans (x5cif_n hj6y))) hr15 rfl he13 (x5hq_k (fun c c1 c2 => (hf12 c (by omega))) he9))
      · exact (x5co_2 (fun c c1 => rfl) (fun c c1 => rfl) ((x5cif_n (fun q => q hj2y)).trans ((x5cif_n (fun q => q (by omega))).trans (x5cif_y hj6n))))
    · exact ra_throw (E := "java/lang/IllegalArgumentException") rfl lk_7_128 (by decide +kernel) (fun _ => rfl) (x5co_1 (fun c c1 => rfl) (fun c c1 => rfl) ((x5cif_n (fun q => q hj2y)).trans (x5cif_y (by omega))))
  · exact (x5co_1 (fun c c1 => rfl) (fun c c1 => rfl) (x5cif_y hj2n))
theorem s5_142 {n : Nat} {f : Nat → Int32} {d : Nat} {x0 : Int} {σ : ra_V} (hx0 : ra_in x0) (hT : x5CT τ σ 1) (hW : x5W2 τ) (hH : x5HQ nh R σ) : ra_C (g_Gs n f) g_sh 0 (d + 7) 142 [.index (0), ra_I x0] σ (fun r s => x5CO (x5dcRm τ x0) (fun z => z = wq τ x0 2) "java/lang/IllegalStateException" "java/util/NoSuchElementException" "" (x5up τ (24 + 8 * x0 + 0).toNat 0) τ nh R σ s r) := by
  refine ra_enter (nn := 2) mt_142 rfl (Nat.le_of_ble_eq_true rfl) rfl (fun h => absurd h (by decide +kernel)) ?_
  refine ra_load rfl rfl rfl rfl ?_
  refine ra_load rfl rfl rfl rfl ?_
  refine x5cXNp (s5_176 hx0 hT) rfl (ct_176 rfl lk_7_135 (Or.inl rfl) sh_0 (Nat.le_of_ble_eq_true rfl)) rfl (fun j2 hj2 hj2y => ?_) (fun hj2n => ?_)
  · have ej := hj2y.1
    have heq : wq τ (j2 : Int) 0 = 1 := by rw [ej]; exact hj2y.2
    have hx0e : x5EX τ x0 := ⟨by omega, by omega, hj2y.2⟩
    have hpj := x5CT_p hT (p := j2) hj2 heq
    rw [ej] at hpj
    have hpw := WF_p hW.1 (p := x0) (by omega) (by omega) hx0e.2.2
    refine ra_store (L' := [_, _, _, _]) rfl rfl rfl (Nat.le_of_ble_eq_true rfl) rfl ?_
    refine ra_load rfl rfl rfl rfl ?_
    refine ra_load rfl rfl rfl rfl ?_
    refine x5cXVp (s5_181 hj2 hT hW heq) rfl (ct_181 rfl lk_7_272 (Or.inl rfl) sh_0 (Nat.le_of_ble_eq_true rfl)) rfl (fun hj4y => ?_) (fun hj4n => ?_)
    · refine ra_load rfl rfl rfl rfl ?_
      refine ra_getR rfl lk_7_25 (Nat.zero_le _) sh_0 rfl ?_
      refine ra_load rfl rfl rfl rfl ?_
      refine ra_getR rfl lk_7_10 (Nat.zero_le _) sh_0 rfl ?_
      refine ra_cV (s5_62 isD_1 rfl hT hW hH) rfl (ct_62 rfl lk_7_260 (Or.inl rfl) sh_40 (Nat.le_of_ble_eq_true rfl)) (fun s5 hs5 => ?_)
      obtain ⟨hf6, he7⟩ := hs5
      have hF8 := Fr_tr (lo := 1) (hi := 175) Fr_rf hf6 (by omega)
      refine ra_load rfl rfl rfl rfl ?_
      refine ra_getI rfl lk_7_144 (Nat.zero_le _) (sh_P isD_1 hj2) rfl ?_
      rw [show (ra_g s5 (1 + 5 + j2) 2) = (ra_g σ (1 + 5 + j2) 2) from (ra_gk (hf6 (1 + 5 + j2) (by omega)))]
      rw [show (ra_g σ (1 + 5 + j2) 2) = wq τ x0 2 from hpj.2.1]
      have hr9 : ra_in (wq τ x0 2) := (ra_in_wq _ _ _)
      refine ra_store (L' := [_, _, _, _]) rfl rfl rfl (Nat.le_of_ble_eq_true rfl) rfl ?_
      refine ra_load rfl rfl rfl rfl ?_
      refine ra_iconst rfl ?_
      refine ra_putI rfl lk_7_144 (Nat.zero_le _) (sh_P isD_1 hj2) rfl rfl ?_
      refine ra_newU (by first | omega | (unfold ra_in at *; omega)) (fun s10 hs10 hp11 hp11o => ?_)
      have hF12 := Fr_tr (lo := 1) (hi := 175) hF8 hs10 (by omega)
      refine ra_load rfl rfl rfl rfl ?_
      exact ra_ireturn rfl rfl (x5co_y (fun c c1 => ((hs10 c (by omega)).trans (hf6 c (by omega)))) ((x5cif_n (fun q => q hx0e)).trans (x5cif_n (by have q9 := hj4y; rw [ej] at q9; exact q9))) hr9 rfl (x5ct_rm (p := j2) (x5CT_e4 (fun c c1 c2 c3 c4 => (hf6 c (by omega))) hT) hW.1 hj2 (by omega) (fun q9 => hj4y (Or.inr q9)) (fun c c1 c2 c3 c4 => hs10 c (by omega)) hp11) (x5hq_k (fun c c1 c2 => (hs10 c (by omega))) he7))
    · exact (x5co_1 (fun c c1 => rfl) (fun c c1 => rfl) ((x5cif_n (fun q => q hx0e)).trans (x5cif_y (by have q9 := hj4n; rw [ej] at q9; exact q9))))
  · exact (x5co_2 (fun c c1 => rfl) (fun c c1 => rfl) (x5cif_y hj2n))
theorem s5_143 {n : Nat} {f : Nat → Int32} {d : Nat} {x0 : Int} {x1 : Int} {σ : ra_V} (hx0 : ra_in x0) (hx1 : x1 = 0 ∨ x1 = 1) (hT : x5CT τ σ 1) (hW : x5W2 τ) (hH : x5HQ nh R σ) : ra_C (g_Gs n f) g_sh 0 (d + 7) 143 [.index (0), ra_I x0, ra_I x1] σ (fun r s => x5CO (x5dcLk τ x0) (fun z => z = wq τ x0 5) "java/util/NoSuchElementException" "" "" (x5up τ (24 + 8 * x0 + 5).toNat x1) τ nh R σ s r) := by
  refine ra_enter (nn := 2) mt_143 rfl (Nat.le_of_ble_eq_true rfl) rfl (fun h => absurd h (by decide +kernel)) ?_
  refine ra_load rfl rfl rfl rfl ?_
  refine ra_load rfl rfl rfl rfl ?_
  refine x5cXNp (s5_176 hx0 hT) rfl (ct_176 rfl lk_7_135 (Or.inl rfl) sh_0 (Nat.le_of_ble_eq_true rfl)) rfl (fun j2 hj2 hj2y => ?_) (fun hj2n => ?_)
  · have ej := hj2y.1
    have heq : wq τ (j2 : Int) 0 = 1 := by rw [ej]; exact hj2y.2
    have hx0e : x5EX τ x0 := ⟨by omega, by omega, hj2y.2⟩
    have hpj := x5CT_p hT (p := j2) hj2 heq
    rw [ej] at hpj
    have hpw := WF_p hW.1 (p := x0) (by omega) (by omega) hx0e.2.2
    refine ra_store (L' := [_, _, _, _, _]) rfl rfl rfl (Nat.le_of_ble_eq_true rfl) rfl ?_
    refine ra_load rfl rfl rfl rfl ?_
    refine ra_getR rfl lk_7_25 (Nat.zero_le _) sh_0 rfl ?_
    refine ra_load rfl rfl rfl rfl ?_
    refine ra_getR rfl lk_7_10 (Nat.zero_le _) sh_0 rfl ?_
    refine ra_cV (s5_62 isD_1 rfl hT hW hH) rfl (ct_62 rfl lk_7_260 (Or.inl rfl) sh_40 (Nat.le_of_ble_eq_true rfl)) (fun s3 hs3 => ?_)
    obtain ⟨hf4, he5⟩ := hs3
    have hF6 := Fr_tr (lo := 1) (hi := 175) Fr_rf hf4 (by omega)
    refine ra_load rfl rfl rfl rfl ?_
    refine ra_getB rfl lk_7_153 (Nat.zero_le _) (sh_P isD_1 hj2) rfl ?_
    rw [show (ra_g s3 (1 + 5 + j2) 5) = (ra_g σ (1 + 5 + j2) 5) from (ra_gk (hf4 (1 + 5 + j2) (by omega)))]
    refine x5gz_ (fun z7 hz7 hz7i => ?_)
    refine ra_store (L' := [_, _, _, _, _]) rfl rfl rfl (Nat.le_of_ble_eq_true rfl) rfl ?_
    refine ra_load rfl rfl rfl rfl ?_
    refine ra_load rfl rfl rfl rfl ?_
    refine ra_putB rfl lk_7_153 (Nat.zero_le _) (sh_P isD_1 hj2) rfl rfl hx1 ?_
    refine ra_newU (ra_in01 hx1) (fun s8 hs8 hp9 hp9o => ?_)
    have hF10 := Fr_tr (lo := 1) (hi := 175) hF6 hs8 (by omega)
    refine ra_load rfl rfl rfl rfl ?_
    exact ra_ireturn rfl (ra_okB hz7) (x5co_y (fun c c1 => ((hs8 c (by omega)).trans (hf4 c (by omega)))) (x5cif_n (fun q => q hx0e)) (ra_in01 hz7) (by have q9 := hW.2.1 x0 (by omega) (by omega); have q8 := hpj.2.2.2.2.1; have q7 := hz7i; have q6 := hz7; show _ = wq τ x0 5; omega) (x5ct_upP (p := j2) (w := 5) (x5CT_e4 (fun c c1 c2 c3 c4 => (hf4 c (by omega))) hT) hW.1 hj2 (by omega) (by omega) (by omega) heq (fun q => absurd q (by decide)) (fun c c1 c2 c3 c4 => hs8 c (by omega)) hp9 (fun a ha => hp9o a ha) (fun q => absurd q (by decide))) (x5hq_k (fun c c1 c2 => (hs8 c (by omega))) he5))
  · exact (x5co_1 (fun c c1 => rfl) (fun c c1 => rfl) (x5cif_y hj2n))
theorem s5_145 {n : Nat} {f : Nat → Int32} {d : Nat} {x0 : Int} {x1 : Int} {σ : ra_V} (hx0 : ra_in x0) (hx1 : ra_in x1) (hT : x5CT τ σ 1) (hW : x5W2 τ) (hH : x5HQ nh R σ) : ra_C (g_Gs n f) g_sh 0 (d + 7) 145 [.index (0), ra_I x0, ra_I x1] σ (fun r s => x5CO (x5dcRz τ x0 x1) (fun z => z = wq τ x0 2) "java/lang/IllegalStateException" "java/util/NoSuchElementException" "" (x5up τ (24 + 8 * x0 + 2).toNat x1) τ nh R σ s r) := by
  refine ra_enter (nn := 2) mt_145 rfl (Nat.le_of_ble_eq_true rfl) rfl (fun h => absurd h (by decide +kernel)) ?_
  refine ra_load rfl rfl rfl rfl ?_
  refine ra_load rfl rfl rfl rfl ?_
  refine x5cXNp (s5_176 hx0 hT) rfl (ct_176 rfl lk_7_135 (Or.inl rfl) sh_0 (Nat.le_of_ble_eq_true rfl)) rfl (fun j2 hj2 hj2y => ?_) (fun hj2n => ?_)
  · have ej := hj2y.1
    have heq : wq τ (j2 : Int) 0 = 1 := by rw [ej]; exact hj2y.2
    have hx0e : x5EX τ x0 := ⟨by omega, by omega, hj2y.2⟩
    have hpj := x5CT_p hT (p := j2) hj2 heq
    rw [ej] at hpj
    have hpw := WF_p hW.1 (p := x0) (by omega) (by omega) hx0e.2.2
    refine ra_store (L' := [_, _, _, _, _]) rfl rfl rfl (Nat.le_of_ble_eq_true rfl) rfl ?_
    refine ra_load rfl rfl rfl rfl ?_
    refine ra_load rfl rfl rfl rfl ?_
    refine ra_load rfl rfl rfl rfl ?_
    refine x5cXVp (s5_182 hj2 hx1 hT hW heq) rfl (ct_182 rfl lk_7_279 (Or.inl rfl) sh_0 (Nat.le_of_ble_eq_true rfl)) rfl (fun hj4y => ?_) (fun hj4n => ?_)
    · refine ra_load rfl rfl rfl rfl ?_
      refine ra_getR rfl lk_7_25 (Nat.zero_le _) sh_0 rfl ?_
      refine ra_load rfl rfl rfl rfl ?_
      refine ra_getR rfl lk_7_10 (Nat.zero_le _) sh_0 rfl ?_
      refine ra_cV (s5_62 isD_1 rfl hT hW hH) rfl (ct_62 rfl lk_7_260 (Or.inl rfl) sh_40 (Nat.le_of_ble_eq_true rfl)) (fun s5 hs5 => ?_)
      obtain ⟨hf6, he7⟩ := hs5
      have hF8 := Fr_tr (lo := 1) (hi := 175) Fr_rf hf6 (by omega)
      refine ra_load rfl rfl rfl rfl ?_
      refine ra_getI rfl lk_7_144 (Nat.zero_le _) (sh_P isD_1 hj2) rfl ?_
      rw [show (ra_g s5 (1 + 5 + j2) 2) = (ra_g σ (1 + 5 + j2) 2) from (ra_gk (hf6 (1 + 5 + j2) (by omega)))]
      rw [show (ra_g σ (1 + 5 + j2) 2) = wq τ x0 2 from hpj.2.1]
      have hr9 : ra_in (wq τ x0 2) := (ra_in_wq _ _ _)
      refine ra_store (L' := [_, _, _, _, _]) rfl rfl rfl (Nat.le_of_ble_eq_true rfl) rfl ?_
      refine ra_load rfl rfl rfl rfl ?_
      refine ra_getR rfl lk_7_10 (Nat.zero_le _) sh_0 rfl ?_
      refine ra_load rfl rfl rfl rfl ?_
      refine ra_load rfl rfl rfl rfl ?_
      refine ra_cV (s5_34 isD_1 hj2 hx1 (x5CT_e4 (fun c c1 c2 c3 c4 => (hf6 c (by omega))) hT) hW heq (x5whyR_ok hj4y).2.1 (by have q9 := (x5whyR_ok hj4y).2.2.1; have q8 := WF_p hW.1 (p := (j2 : Int)) (by omega) (by omega) heq; omega)) rfl (ct_34 rfl lk_7_283 (Or.inl rfl) (sh_D isD_1) (Nat.le_of_ble_eq_true rfl)) (fun s10 hs10 => ?_)
      obtain ⟨hf11, he12⟩ := hs10
      have hF13 := Fr_tr (lo := 1) (hi := 175) hF8 hf11 (by omega)
      refine ra_load rfl rfl rfl rfl ?_
      exact ra_ireturn rfl rfl (x5co_y (fun c c1 => ((hf11 c (by omega)).trans (hf6 c (by omega)))) ((x5cif_n (fun q => q hx0e)).trans (x5cif_n (fun q => q (by have q9 := hj4y; rw [ej] at q9; exact q9)))) hr9 rfl (by have q9 := he12; rw [ej] at q9; exact q9) (x5hq_k (fun c c1 c2 => (hf11 c (by omega))) he7))
    · exact (x5co_1 (fun c c1 => rfl) (fun c c1 => rfl) ((x5cif_n (fun q => q hx0e)).trans (x5cif_y (by have q9 := hj4n; rw [ej] at q9; exact q9))))
  · exact (x5co_2 (fun c c1 => rfl) (fun c c1 => rfl) (x5cif_y hj2n))
theorem s5_146 {n : Nat} {f : Nat → Int32} {d : Nat} {x0 : Int} {σ : ra_V} (hx0 : ra_in x0) (hT : x5CT τ σ 1) (hW : x5W2 τ) (hH : x5HQ nh R σ) : ra_C (g_Gs n f) g_sh 0 (d + 7) 146 [.index (0), ra_I x0] σ (fun r s => x5CO (x5dcRz τ x0 ((wq τ x0 2 + ra_g τ 180 3 - 1).tdiv (ra_g τ 180 3) * ra_g τ 180 3)) (fun z => z = ((wq τ x0 2 + ra_g τ 180 3 - 1).tdiv (ra_g τ 180 3) * ra_g τ 180 3)) "java/lang/IllegalStateException" "java/util/NoSuchElementException" "" (x5up τ (24 + 8 * x0 + 2).toNat ((wq τ x0 2 + ra_g τ 180 3 - 1).tdiv (ra_g τ 180 3) * ra_g τ 180 3)) τ nh R σ s r) := by
  refine ra_enter (nn := 2) mt_146 rfl (Nat.le_of_ble_eq_true rfl) rfl (fun h => absurd h (by decide +kernel)) ?_
  have hc := x5CT_s hT
  have hwa := WF_a hW.1
  unfold WFa at hwa
  refine ra_load rfl rfl rfl rfl ?_
  refine ra_load rfl rfl rfl rfl ?_
  refine x5cXNp (s5_176 hx0 hT) rfl (ct_176 rfl lk_7_135 (Or.inl rfl) sh_0 (Nat.le_of_ble_eq_true rfl)) rfl (fun j2 hj2 hj2y => ?_) (fun hj2n => ?_)
  · have ej := hj2y.1
    have heq : wq τ (j2 : Int) 0 = 1 := by rw [ej]; exact hj2y.2
    have hx0e : x5EX τ x0 := ⟨by omega, by omega, hj2y.2⟩
    have hpj := x5CT_p hT (p := j2) hj2 heq
    rw [ej] at hpj
    have hpw := WF_p hW.1 (p := x0) (by omega) (by omega) hx0e.2.2
    refine ra_store (L' := [_, _, _, _]) rfl rfl rfl (Nat.le_of_ble_eq_true rfl) rfl ?_
    refine ra_load rfl rfl rfl rfl ?_
    refine ra_getI rfl lk_7_144 (Nat.zero_le _) (sh_P isD_1 hj2) rfl ?_
    rw [show (ra_g σ (1 + 5 + j2) 2) = wq τ x0 2 from hpj.2.1]
    have hr3 : ra_in (wq τ x0 2) := (ra_in_wq _ _ _)
    refine ra_load rfl rfl rfl rfl ?_
    refine ra_getR rfl lk_7_10 (Nat.zero_le _) sh_0 rfl ?_
    refine ra_getI rfl lk_7_100 (Nat.zero_le _) (sh_D isD_1) rfl ?_
    rw [show (ra_g σ (1) 7) = ra_g τ 180 3 from hc.2.2.2.1]
    have hr4 : ra_in (ra_g τ 180 3) := (ra_in_g _ _ _)
    refine ra_cTp (s5_186 hr3 hr4 (by omega)) rfl (ct_186 rfl lk_7_286 (Or.inl rfl) (Nat.le_of_ble_eq_true rfl)) ?_
    have hr6 : ra_in (((wq τ x0 2) + (ra_g τ 180 3) - 1).tdiv (ra_g τ 180 3) * (ra_g τ 180 3)) := (x5rup_in (by omega))
    refine ra_store (L' := [_, _, _, _]) rfl rfl rfl (Nat.le_of_ble_eq_true rfl) rfl ?_
    refine ra_load rfl rfl rfl rfl ?_
    refine ra_load rfl rfl rfl rfl ?_
    refine ra_load rfl rfl rfl rfl ?_
    refine x5cXVp (s5_182 hj2 hr6 hT hW heq) rfl (ct_182 rfl lk_7_279 (Or.inl rfl) sh_0 (Nat.le_of_ble_eq_true rfl)) rfl (fun hj8y => ?_) (fun hj8n => ?_)
    · refine ra_load rfl rfl rfl rfl ?_
      refine ra_getR rfl lk_7_25 (Nat.zero_le _) sh_0 rfl ?_
      refine ra_load rfl rfl rfl rfl ?_
      refine ra_getR rfl lk_7_10 (Nat.zero_le _) sh_0 rfl ?_
      refine ra_cV (s5_62 isD_1 rfl hT hW hH) rfl (ct_62 rfl lk_7_260 (Or.inl rfl) sh_40 (Nat.le_of_ble_eq_true rfl)) (fun s9 hs9 => ?_)
      obtain ⟨hf10, he11⟩ := hs9
      have hF12 := Fr_tr (lo := 1) (hi := 175) Fr_rf hf10 (by omega)
      refine ra_load rfl rfl rfl rfl ?_
      refine ra_getR rfl lk_7_10 (Nat.zero_le _) sh_0 rfl ?_
      refine ra_load rfl rfl rfl rfl ?_
      refine ra_load rfl rfl rfl rfl ?_
      refine ra_cV (s5_34 isD_1 hj2 hr6 (x5CT_e4 (fun c c1 c2 c3 c4 => (hf10 c (by omega))) hT) hW heq (x5whyR_ok hj8y).2.1 (by have q9 := (x5whyR_ok hj8y).2.2.1; have q8 := WF_p hW.1 (p := (j2 : Int)) (by omega) (by omega) heq; omega)) rfl (ct_34 rfl lk_7_283 (Or.inl rfl) (sh_D isD_1) (Nat.le_of_ble_eq_true rfl)) (fun s13 hs13 => ?_)
      obtain ⟨hf14, he15⟩ := hs13
      have hF16 := Fr_tr (lo := 1) (hi := 175) hF12 hf14 (by omega)
      refine ra_load rfl rfl rfl rfl ?_
      exact ra_ireturn rfl rfl (x5co_y (fun c c1 => ((hf14 c (by omega)).trans (hf10 c (by omega)))) ((x5cif_n (fun q => q hx0e)).trans (x5cif_n (fun q => q (by have q9 := hj8y; rw [ej] at q9; exact q9)))) hr6 rfl (by have q9 := he15; rw [ej] at q9; exact q9) (x5hq_k (fun c c1 c2 => (hf14 c (by omega))) he11))
    · exact (x5co_1 (fun c c1 => rfl) (fun c c1 => rfl) ((x5cif_n (fun q => q hx0e)).trans (x5cif_y (by have q9 := hj8n; rw [ej] at q9; exact q9))))
  · exact (x5co_2 (fun c c1 => rfl) (fun c c1 => rfl) (x5cif_y hj2n))
theorem s5_147 {n : Nat} {f : Nat → Int32} {d : Nat} {x0 : Int} {x1 : Int} {σ : ra_V} (hx0 : ra_in x0) (hx1 : ra_in x1) (hT : x5CT τ σ 1) (hW : x5W2 τ) (hH : x5HQ nh R σ) : ra_C (g_Gs n f) g_sh 0 (d + 7) 147 [.index (0), ra_I x0, ra_I x1] σ (fun r s => x5CO (x5dcMn τ x0 x1) (fun z => z = wq τ x0 3) "java/lang/IllegalArgumentException" "java/util/NoSuchElementException" "" (x5up τ (24 + 8 * x0 + 3).toNat x1) τ nh R σ s r) := by
  refine ra_enter (nn := 2) mt_147 rfl (Nat.le_of_ble_eq_true rfl) rfl (fun _ => by omega) ?_
  refine ra_load rfl rfl rfl rfl ?_
  refine ra_load rfl rfl rfl rfl ?_
  refine x5cXNp (s5_176 hx0 hT) rfl (ct_176 rfl lk_7_135 (Or.inl rfl) sh_0 (Nat.le_of_ble_eq_true rfl)) rfl (fun j2 hj2 hj2y => ?_) (fun hj2n => ?_)
  · have ej := hj2y.1
    have heq : wq τ (j2 : Int) 0 = 1 := by rw [ej]; exact hj2y.2
    have hx0e : x5EX τ x0 := ⟨by omega, by omega, hj2y.2⟩
    have hpj := x5CT_p hT (p := j2) hj2 heq
    rw [ej] at hpj
    have hpw := WF_p hW.1 (p := x0) (by omega) (by omega) hx0e.2.2
    refine ra_store (L' := [_, _, _, _, _]) rfl rfl rfl (Nat.le_of_ble_eq_true rfl) rfl ?_
    refine ra_load rfl rfl rfl rfl ?_
    refine ra_iconst rfl ?_
    refine ra_iclt rfl rfl hx1 (by first | omega | (unfold ra_in at *; omega)) (fun h3 => ?_) (fun h3 => ?_)
    · exact ra_throw (E := "java/lang/IllegalArgumentException") rfl lk_7_128 (by decide +kernel) (fun _ => rfl) (x5co_1 (fun c c1 => rfl) (fun c c1 => rfl) ((x5cif_n (fun q => q hx0e)).trans (x5cif_y (by omega))))
    · refine ra_load rfl rfl rfl rfl ?_
      refine ra_load rfl rfl rfl rfl ?_
      refine ra_getI rfl lk_7_144 (Nat.zero_le _) (sh_P isD_1 hj2) rfl ?_
      rw [show (ra_g σ (1 + 5 + j2) 2) = wq τ x0 2 from hpj.2.1]
      have hr4 : ra_in (wq τ x0 2) := (ra_in_wq _ _ _)
      refine ra_icle rfl rfl hx1 hr4 (fun h5 => ?_) (fun h5 => ?_)
      · refine ra_load rfl rfl rfl rfl ?_
        refine ra_getR rfl lk_7_25 (Nat.zero_le _) sh_0 rfl ?_
        refine ra_load rfl rfl rfl rfl ?_
        refine ra_getR rfl lk_7_10 (Nat.zero_le _) sh_0 rfl ?_
        refine ra_cV (s5_62 isD_1 rfl hT hW hH) rfl (ct_62 rfl lk_7_260 (Or.inl rfl) sh_40 (Nat.le_of_ble_eq_true rfl)) (fun s6 hs6 => ?_)
        obtain ⟨hf7, he8⟩ := hs6
        have hF9 := Fr_tr (lo := 1) (hi := 175) Fr_rf hf7 (by omega)
        refine ra_load rfl rfl rfl rfl ?_
        refine ra_getI rfl lk_7_147 (Nat.zero_le _) (sh_P isD_1 hj2) rfl ?_
        rw [show (ra_g s6 (1 + 5 + j2) 3) = (ra_g σ (1 + 5 + j2) 3) from (ra_gk (hf7 (1 + 5 + j2) (by omega)))]
        rw [show (ra_g σ (1 + 5 + j2) 3) = wq τ x0 3 from hpj.2.2.1]
        have hr10 : ra_in (wq τ x0 3) := (ra_in_wq _ _ _)
        refine ra_store (L' := [_, _, _, _, _]) rfl rfl rfl (Nat.le_of_ble_eq_true rfl) rfl ?_
        refine ra_load rfl rfl rfl rfl ?_
        refine ra_load rfl rfl rfl rfl ?_
        refine ra_putI rfl lk_7_147 (Nat.zero_le _) (sh_P isD_1 hj2) rfl rfl ?_
        refine ra_newU hx1 (fun s11 hs11 hp12 hp12o => ?_)
        have hF13 := Fr_tr (lo := 1) (hi := 175) hF9 hs11 (by omega)
        refine ra_load rfl rfl rfl rfl ?_
        exact ra_ireturn rfl rfl (x5co_y (fun c c1 => ((hs11 c (by omega)).trans (hf7 c (by omega)))) ((x5cif_n (fun q => q hx0e)).trans (x5cif_n (fun q => q (by omega)))) hr10 rfl (x5ct_upP (p := j2) (w := 3) (x5CT_e4 (fun c c1 c2 c3 c4 => (hf7 c (by omega))) hT) hW.1 hj2 (by omega) (by omega) (by omega) heq (fun q => absurd q (by decide)) (fun c c1 c2 c3 c4 => hs11 c (by omega)) hp12 (fun a ha => hp12o a ha) (fun q => absurd q (by decide))) (x5hq_k (fun c c1 c2 => (hs11 c (by omega))) he8))
      · exact ra_throw (E := "java/lang/IllegalArgumentException") rfl lk_7_128 (by decide +kernel) (fun _ => rfl) (x5co_1 (fun c c1 => rfl) (fun c c1 => rfl) ((x5cif_n (fun q => q hx0e)).trans (x5cif_y (by omega))))
  · exact (x5co_2 (fun c c1 => rfl) (fun c c1 => rfl) (x5cif_y hj2n))
theorem s5_149 {n : Nat} {f : Nat → Int32} {d : Nat} {x0 : Int} {x1 : Int} {σ : ra_V} (hx0 : ra_in x0) (hx1 : ra_in x1) (hT : x5CT τ σ 1) (hW : x5W2 τ) (hH : x5HQ nh R σ) : ra_C (g_Gs n f) g_sh 0 (d + 6) 149 [.index (0), ra_I x0, ra_I x1] σ (fun r s => x5CO (x5dcSet x0 x1) (fun z => z = ra_g τ 180 x0.toNat) "java/lang/IllegalArgumentException" "" "" (x5up τ x0.toNat x1) τ nh R σ s r) := by
  refine ra_enter (nn := 1) mt_149 rfl (Nat.le_of_ble_eq_true rfl) rfl (fun _ => by omega) ?_
  have hc := x5CT_s hT
  have hwa := WF_a hW.1
  unfold WFa at hwa
  refine ra_load rfl rfl rfl rfl ?_
  refine ra_iconst rfl ?_
  refine ra_iceq rfl rfl hx0 (by first | omega | (unfold ra_in at *; omega)) (fun h1 => ?_) (fun h1 => ?_)
  · refine ra_load rfl rfl rfl rfl ?_
    refine ra_iconst rfl ?_
    refine ra_iclt rfl rfl hx1 (by first | omega | (unfold ra_in at *; omega)) (fun h2 => ?_) (fun h2 => ?_)
    · exact ra_throw (E := "java/lang/IllegalArgumentException") rfl lk_7_128 (by decide +kernel) (fun _ => rfl) (x5co_1 (fun c c1 => rfl) (fun c c1 => rfl) ((x5cif_n (by omega)).trans (x5cif_y (by omega))))
    · refine ra_load rfl rfl rfl rfl ?_
      refine ra_load rfl rfl rfl rfl ?_
      refine ra_iconst rfl ?_
      refine ra_icne rfl rfl hx0 (by first | omega | (unfold ra_in at *; omega)) (fun h3 => ?_) (fun h3 => ?_)
      · refine ra_bipush rfl (by decide) ?_
        refine ra_icle rfl rfl hx1 (by first | omega | (unfold ra_in at *; omega)) (fun h4 => ?_) (fun h4 => ?_)
        · refine ra_load rfl rfl rfl rfl ?_
          refine ra_getR rfl lk_7_25 (Nat.zero_le _) sh_0 rfl ?_
          refine ra_load rfl rfl rfl rfl ?_
          refine ra_getR rfl lk_7_10 (Nat.zero_le _) sh_0 rfl ?_
          refine ra_cV (s5_62 isD_1 rfl hT hW hH) rfl (ct_62 rfl lk_7_260 (Or.inl rfl) sh_40 (Nat.le_of_ble_eq_true rfl)) (fun s5 hs5 => ?_)
          obtain ⟨hf6, he7⟩ := hs5
          have hF8 := Fr_tr (lo := 1) (hi := 175) Fr_rf hf6 (by omega)
          refine ra_load rfl rfl rfl rfl ?_
          refine ra_iconst rfl ?_
          refine ra_icne rfl rfl hx0 (by first | omega | (unfold ra_in at *; omega)) (fun h9 => ?_) (fun h9 => ?_)
          · refine ra_load rfl rfl rfl rfl ?_
            refine ra_getR rfl lk_7_10 (Nat.zero_le _) sh_0 rfl ?_
            refine ra_getI rfl lk_7_103 (Nat.zero_le _) (sh_D isD_1) rfl ?_
            rw [show (ra_g s5 (1) 8) = (ra_g σ (1) 8) from (ra_gk (hf6 (1) (by omega)))]
            rw [show (ra_g σ (1) 8) = ra_g τ 180 4 from hc.2.2.2.2.1]
            have hr10 : ra_in (ra_g τ 180 4) := (ra_in_g _ _ _)
            refine ra_store (L' := [_, _, _, _]) rfl rfl rfl (Nat.le_of_ble_eq_true rfl) rfl ?_
            refine ra_load rfl rfl rfl rfl ?_
            refine ra_iconst rfl ?_
            refine ra_icne rfl rfl hx0 (by first | omega | (unfold ra_in at *; omega)) (fun h11 => ?_) (fun h11 => ?_)
            · refine ra_load rfl rfl rfl rfl ?_
              refine ra_getR rfl lk_7_10 (Nat.zero_le _) sh_0 rfl ?_
              refine ra_load rfl rfl rfl rfl ?_
              refine ra_putI rfl lk_7_103 (Nat.zero_le _) (sh_D isD_1) rfl rfl ?_
              refine ra_newU hx1 (fun s12 hs12 hp13 hp13o => ?_)
              have hF14 := Fr_tr (lo := 1) (hi := 175) hF8 hs12 (by omega)
              refine ra_load rfl rfl rfl rfl ?_
              exact ra_ireturn rfl rfl (x5co_y (fun c c1 => ((hs12 c (by omega)).trans (hf6 c (by omega)))) ((x5cif_n (by omega)).trans (x5cif_n (fun q => q (by omega)))) hr10 (by show _ = ra_g τ 180 x0.toNat; first | (exfalso; omega) | (rw [show x0.toNat = 3 by omega]) | (rw [show x0.toNat = 4 by omega])) (by rw [show x0.toNat = 4 by omega]; exact x5ct_upS (j := 4) (x5CT_e4 (fun c c1 c2 c3 c4 => (hf6 c (by omega))) hT) hW.1 (by omega) (fun c c1 c2 c3 => hs12 c (by omega)) (hp13.trans (ra_w_id hx1).symm) (fun a ha => hp13o a ha)) (x5hq_k (fun c c1 c2 => (hs12 c (by omega))) he7))
            · refine ra_load rfl rfl rfl rfl ?_
              refine ra_getR rfl lk_7_10 (Nat.zero_le _) sh_0 rfl ?_
              refine ra_load rfl rfl rfl rfl ?_
              refine ra_putI rfl lk_7_100 (Nat.zero_le _) (sh_D isD_1) rfl rfl ?_
              refine ra_newU hx1 (fun s15 hs15 hp16 hp16o => ?_)
              have hF17 := Fr_tr (lo := 1) (hi := 175) hF8 hs15 (by omega)
              refine ra_goto rfl rfl ?_
              refine ra_load rfl rfl rfl rfl ?_
              exact ra_ireturn rfl rfl (x5co_y (fun c c1 => ((hs15 c (by omega)).trans (hf6 c (by omega)))) ((x5cif_n (by omega)).trans (x5cif_n (fun q => q (by omega)))) hr10 (by show _ = ra_g τ 180 x0.toNat; first | (exfalso; omega) | (rw [show x0.toNat = 3 by omega]) | (rw [show x0.toNat = 4 by omega])) (by rw [show x0.toNat = 3 by omega]; exact x5ct_upS (j := 3) (x5CT_e4 (fun c c1 c2 c3 c4 => (hf6 c (by omega))) hT) hW.1 (by omega) (fun c c1 c2 c3 => hs15 c (by omega)) (hp16.trans (ra_w_id hx1).symm) (fun a ha => hp16o a ha)) (x5hq_k (fun c c1 c2 => (hs15 c (by omega))) he7))
          · refine ra_load rfl rfl rfl rfl ?_
            refine ra_getR rfl lk_7_10 (Nat.zero_le _) sh_0 rfl ?_
            refine ra_getI rfl lk_7_100 (Nat.zero_le _) (sh_D isD_1) rfl ?_
            rw [show (ra_g s5 (1) 7) = (ra_g σ (1) 7) from (ra_gk (hf6 (1) (by omega)))]
            rw [show (ra_g σ (1) 7) = ra_g τ 180 3 from hc.2.2.2.1]
            have hr18 : ra_in (ra_g τ 180 3) := (ra_in_g _ _ _)
            refine ra_goto rfl rfl ?_
            refine ra_store (L' := [_, _, _, _]) rfl rfl rfl (Nat.le_of_ble_eq_true rfl) rfl ?_
            refine ra_load rfl rfl rfl rfl ?_
            refine ra_iconst rfl ?_
            refine ra_icne rfl rfl hx0 (by first | omega | (unfold ra_in at *; omega)) (fun h19 => ?_) (fun h19 => ?_)
            · refine ra_load rfl rfl rfl rfl ?_
              refine ra_getR rfl lk_7_10 (Nat.zero_le _) sh_0 rfl ?_
              refine ra_load rfl rfl rfl rfl ?_
              refine ra_putI rfl lk_7_103 (Nat.zero_le _) (sh_D isD_1) rfl rfl ?_
              refine ra_newU hx1 (fun s20 hs20 hp21 hp21o => ?_)
              have hF22 := Fr_tr (lo := 1) (hi := 175) hF8 hs20 (by omega)
              refine ra_load rfl rfl rfl rfl ?_
              exact ra_ireturn rfl rfl (x5co_y (fun c c1 => ((hs20 c (by omega)).trans (hf6 c (by omega)))) ((x5cif_n (by omega)).trans (x5cif_n (fun q => q (by omega)))) hr18 (by show _ = ra_g τ 180 x0.toNat; first | (exfalso; omega) | (rw [show x0.toNat = 3 by omega]) | (rw [show x0.toNat = 4 by omega])) (by rw [show x0.toNat = 4 by omega]; exact x5ct_upS (j := 4) (x5CT_e4 (fun c c1 c2 c3 c4 => (hf6 c (by omega))) hT) hW.1 (by omega) (fun c c1 c2 c3 => hs20 c (by omega)) (hp21.trans (ra_w_id hx1).symm) (fun a ha => hp21o a ha)) (x5hq_k (fun c c1 c2 => (hs20 c (by omega))) he7))
            · refine ra_load rfl rfl rfl rfl ?_
              refine ra_getR rfl lk_7_10 (Nat.zero_le _) sh_0 rfl ?_
              refine ra_load rfl rfl rfl rfl ?_
              refine ra_putI rfl lk_7_100 (Nat.zero_le _) (sh_D isD_1) rfl rfl ?_
              refine ra_newU hx1 (fun s23 hs23 hp24 hp24o => ?_)
              have hF25 := Fr_tr (lo := 1) (hi := 175) hF8 hs23 (by omega)
              refine ra_goto rfl rfl ?_
              refine ra_load rfl rfl rfl rfl ?_
              exact ra_ireturn rfl rfl (x5co_y (fun c c1 => ((hs23 c (by omega)).trans (hf6 c (by omega)))) ((x5cif_n (by omega)).trans (x5cif_n (fun q => q (by omega)))) hr18 (by show _ = ra_g τ 180 x0.toNat; first | (exfalso; omega) | (rw [show x0.toNat = 3 by omega]) | (rw [show x0.toNat = 4 by omega])) (by rw [show x0.toNat = 3 by omega]; exact x5ct_upS (j := 3) (x5CT_e4 (fun c c1 c2 c3 c4 => (hf6 c (by omega))) hT) hW.1 (by omega) (fun c c1 c2 c3 => hs23 c (by omega)) (hp24.trans (ra_w_id hx1).symm) (fun a ha => hp24o a ha)) (x5hq_k (fun c c1 c2 => (hs23 c (by omega))) he7))
        · exact ra_throw (E := "java/lang/IllegalArgumentException") rfl lk_7_128 (by decide +kernel) (fun _ => rfl) (x5co_1 (fun c c1 => rfl) (fun c c1 => rfl) ((x5cif_n (by omega)).trans (x5cif_y (by omega))))
      · refine ra_bipush rfl (by decide) ?_
        refine ra_goto rfl rfl ?_
        refine ra_icle rfl rfl hx1 (by first | omega | (unfold ra_in at *; omega)) (fun h26 => ?_) (fun h26 => ?_)
        · refine ra_load rfl rfl rfl rfl ?_
          refine ra_getR rfl lk_7_25 (Nat.zero_le _) sh_0 rfl ?_
          refine ra_load rfl rfl rfl rfl ?_
          refine ra_getR rfl lk_7_10 (Nat.zero_le _) sh_0 rfl ?_
          refine ra_cV (s5_62 isD_1 rfl hT hW hH) rfl (ct_62 rfl lk_7_260 (Or.inl rfl) sh_40 (Nat.le_of_ble_eq_true rfl)) (fun s27 hs27 => ?_)
          obtain ⟨hf28, he29⟩ := hs27
          have hF30 := Fr_tr (lo := 1) (hi := 175) Fr_rf hf28 (by omega)
          refine ra_load rfl rfl rfl rfl ?_
          refine ra_iconst rfl ?_
          refine ra_icne rfl rfl hx0 (by first | omega | (unfold ra_in at *; omega)) (fun h31 => ?_) (fun h31 => ?_)
          · refine ra_load rfl rfl rfl rfl ?_
            refine ra_getR rfl lk_7_10 (Nat.zero_le _) sh_0 rfl ?_
            refine ra_getI rfl lk_7_103 (Nat.zero_le _) (sh_D isD_1) rfl ?_
            rw [show (ra_g s27 (1) 8) = (ra_g σ (1) 8) from (ra_gk (hf28 (1) (by omega)))]
            rw [show (ra_g σ (1) 8) = ra_g τ 180 4 from hc.2.2.2.2.1]
            have hr32 : ra_in (ra_g τ 180 4) := (ra_in_g _ _ _)
            refine ra_store (L' := [_, _, _, _]) rfl rfl rfl (Nat.le_of_ble_eq_true rfl) rfl ?_
            refine ra_load rfl rfl rfl rfl ?_
            refine ra_iconst rfl ?_
            refine ra_icne rfl rfl hx0 (by first | omega | (unfold ra_in at *; omega)) (fun h33 => ?_) (fun h33 => ?_)
            · refine ra_load rfl rfl rfl rfl ?_
              refine ra_getR rfl lk_7_10 (Nat.zero_le _) sh_0 rfl ?_
              refine ra_load rfl rfl rfl rfl ?_
              refine ra_putI rfl lk_7_103 (Nat.zero_le _) (sh_D isD_1) rfl rfl ?_
              refine ra_newU hx1 (fun s34 hs34 hp35 hp35o => ?_)
              have hF36 := Fr_tr (lo := 1) (hi := 175) hF30 hs34 (by omega)
              refine ra_load rfl rfl rfl rfl ?_
              exact ra_ireturn rfl rfl (x5co_y (fun c c1 => ((hs34 c (by omega)).trans (hf28 c (by omega)))) ((x5cif_n (by omega)).trans (x5cif_n (fun q => q (by omega)))) hr32 (by show _ = ra_g τ 180 x0.toNat; first | (exfalso; omega) | (rw [show x0.toNat = 3 by omega]) | (rw [show x0.toNat = 4 by omega])) (by rw [show x0.toNat = 4 by omega]; exact x5ct_upS (j := 4) (x5CT_e4 (fun c c1 c2 c3 c4 => (hf28 c (by omega))) hT) hW.1 (by omega) (fun c c1 c2 c3 => hs34 c (by omega)) (hp35.trans (ra_w_id hx1).symm) (fun a ha => hp35o a ha)) (x5hq_k (fun c c1 c2 => (hs34 c (by omega))) he29))
            · refine ra_load rfl rfl rfl rfl ?_
              refine ra_getR rfl lk_7_10 (Nat.zero_le _) sh_0 rfl ?_
              refine ra_load rfl rfl rfl rfl ?_
              refine ra_putI rfl lk_7_100 (Nat.zero_le _) (sh_D isD_1) rfl rfl ?_
              refine ra_newU hx1 (fun s37 hs37 hp38 hp38o => ?_)
              have hF39 := Fr_tr (lo := 1) (hi := 175) hF30 hs37 (by omega)
              refine ra_goto rfl rfl ?_
              refine ra_load rfl rfl rfl rfl ?_
              exact ra_ireturn rfl rfl (x5co_y (fun c c1 => ((hs37 c (by omega)).trans (hf28 c (by omega)))) ((x5cif_n (by omega)).trans (x5cif_n (fun q => q (by omega)))) hr32 (by show _ = ra_g τ 180 x0.toNat; first | (exfalso; omega) | (rw [show x0.toNat = 3 by omega]) | (rw [show x0.toNat = 4 by omega])) (by rw [show x0.toNat = 3 by omega]; exact x5ct_upS (j := 3) (x5CT_e4 (fun c c1 c2 c3 c4 => (hf28 c (by omega))) hT) hW.1 (by omega) (fun c c1 c2 c3 => hs37 c (by omega)) (hp38.trans (ra_w_id hx1).symm) (fun a ha => hp38o a ha)) (x5hq_k (fun c c1 c2 => (hs37 c (by omega))) he29))
          · refine ra_load rfl rfl rfl rfl ?_
            refine ra_getR rfl lk_7_10 (Nat.zero_le _) sh_0 rfl ?_
            refine ra_getI rfl lk_7_100 (Nat.zero_le _) (sh_D isD_1) rfl ?_
            rw [show (ra_g s27 (1) 7) = (ra_g σ (1) 7) from (ra_gk (hf28 (1) (by omega)))]
            rw [show (ra_g σ (1) 7) = ra_g τ 180 3 from hc.2.2.2.1]
            have hr40 : ra_in (ra_g τ 180 3) := (ra_in_g _ _ _)
            refine ra_goto rfl rfl ?_
            refine ra_store (L' := [_, _, _, _]) rfl rfl rfl (Nat.le_of_ble_eq_true rfl) rfl ?_
            refine ra_load rfl rfl rfl rfl ?_
            refine ra_iconst rfl ?_
            refine ra_icne rfl rfl hx0 (by first | omega | (unfold ra_in at *; omega)) (fun h41 => ?_) (fun h41 => ?_)
            · refine ra_load rfl rfl rfl rfl ?_
              refine ra_getR rfl lk_7_10 (Nat.zero_le _) sh_0 rfl ?_
              refine ra_load rfl rfl rfl rfl ?_
              refine ra_putI rfl lk_7_103 (Nat.zero_le _) (sh_D isD_1) rfl rfl ?_
              refine ra_newU hx1 (fun s42 hs42 hp43 hp43o => ?_)
              have hF44 := Fr_tr (lo := 1) (hi := 175) hF30 hs42 (by omega)
              refine ra_load rfl rfl rfl rfl ?_
              exact ra_ireturn rfl rfl (x5co_y (fun c c1 => ((hs42 c (by omega)).trans (hf28 c (by omega)))) ((x5cif_n (by omega)).trans (x5cif_n (fun q => q (by omega)))) hr40 (by show _ = ra_g τ 180 x0.toNat; first | (exfalso; omega) | (rw [show x0.toNat = 3 by omega]) | (rw [show x0.toNat = 4 by omega])) (by rw [show x0.toNat = 4 by omega]; exact x5ct_upS (j := 4) (x5CT_e4 (fun c c1 c2 c3 c4 => (hf28 c (by omega))) hT) hW.1 (by omega) (fun c c1 c2 c3 => hs42 c (by omega)) (hp43.trans (ra_w_id hx1).symm) (fun a ha => hp43o a ha)) (x5hq_k (fun c c1 c2 => (hs42 c (by omega))) he29))
            · refine ra_load rfl rfl rfl rfl ?_
              refine ra_getR rfl lk_7_10 (Nat.zero_le _) sh_0 rfl ?_
              refine ra_load rfl rfl rfl rfl ?_
              refine ra_putI rfl lk_7_100 (Nat.zero_le _) (sh_D isD_1) rfl rfl ?_
              refine ra_newU hx1 (fun s45 hs45 hp46 hp46o => ?_)
              have hF47 := Fr_tr (lo := 1) (hi := 175) hF30 hs45 (by omega)
              refine ra_goto rfl rfl ?_
              refine ra_load rfl rfl rfl rfl ?_
              exact ra_ireturn rfl rfl (x5co_y (fun c c1 => ((hs45 c (by omega)).trans (hf28 c (by omega)))) ((x5cif_n (by omega)).trans (x5cif_n (fun q => q (by omega)))) hr40 (by show _ = ra_g τ 180 x0.toNat; first | (exfalso; omega) | (rw [show x0.toNat = 3 by omega]) | (rw [show x0.toNat = 4 by omega])) (by rw [show x0.toNat = 3 by omega]; exact x5ct_upS (j := 3) (x5CT_e4 (fun c c1 c2 c3 c4 => (hf28 c (by omega))) hT) hW.1 (by omega) (fun c c1 c2 c3 => hs45 c (by omega)) (hp46.trans (ra_w_id hx1).symm) (fun a ha => hp46o a ha)) (x5hq_k (fun c c1 c2 => (hs45 c (by omega))) he29))
        · exact ra_throw (E := "java/lang/IllegalArgumentException") rfl lk_7_128 (by decide +kernel) (fun _ => rfl) (x5co_1 (fun c c1 => rfl) (fun c c1 => rfl) ((x5cif_n (by omega)).trans (x5cif_y (by omega))))
  · refine ra_load rfl rfl rfl rfl ?_
    refine ra_iconst rfl ?_
    refine ra_iceq rfl rfl hx0 (by first | omega | (unfold ra_in at *; omega)) (fun h48 => ?_) (fun h48 => ?_)
    · refine ra_load rfl rfl rfl rfl ?_
      refine ra_iconst rfl ?_
      refine ra_iclt rfl rfl hx1 (by first | omega | (unfold ra_in at *; omega)) (fun h49 => ?_) (fun h49 => ?_)
      · exact ra_throw (E := "java/lang/IllegalArgumentException") rfl lk_7_128 (by decide +kernel) (fun _ => rfl) (x5co_1 (fun c c1 => rfl) (fun c c1 => rfl) ((x5cif_n (by omega)).trans (x5cif_y (by omega))))
      · refine ra_load rfl rfl rfl rfl ?_
        refine ra_load rfl rfl rfl rfl ?_
        refine ra_iconst rfl ?_
        refine ra_icne rfl rfl hx0 (by first | omega | (unfold ra_in at *; omega)) (fun h50 => ?_) (fun h50 => ?_)
        · refine ra_bipush rfl (by decide) ?_
          refine ra_icle rfl rfl hx1 (by first | omega | (unfold ra_in at *; omega)) (fun h51 => ?_) (fun h51 => ?_)
          · refine ra_load rfl rfl rfl rfl ?_
            refine ra_getR rfl lk_7_25 (Nat.zero_le _) sh_0 rfl ?_
            refine ra_load rfl rfl rfl rfl ?_
            refine ra_getR rfl lk_7_10 (Nat.zero_le _) sh_0 rfl ?_
            refine ra_cV (s5_62 isD_1 rfl hT hW hH) rfl (ct_62 rfl lk_7_260 (Or.inl rfl) sh_40 (Nat.le_of_ble_eq_true rfl)) (fun s52 hs52 => ?_)
            obtain ⟨hf53, he54⟩ := hs52
            have hF55 := Fr_tr (lo := 1) (hi := 175) Fr_rf hf53 (by omega)
            refine ra_load rfl rfl rfl rfl ?_
            refine ra_iconst rfl ?_
            refine ra_icne rfl rfl hx0 (by first | omega | (unfold ra_in at *; omega)) (fun h56 => ?_) (fun h56 => ?_)
            · refine ra_load rfl rfl rfl rfl ?_
              refine ra_getR rfl lk_7_10 (Nat.zero_le _) sh_0 rfl ?_
              refine ra_getI rfl lk_7_103 (Nat.zero_le _) (sh_D isD_1) rfl ?_
              rw [show (ra_g s52 (1) 8) = (ra_g σ (1) 8) from (ra_gk (hf53 (1) (by omega)))]
              rw [show (ra_g σ (1) 8) = ra_g τ 180 4 from hc.2.2.2.2.1]
              have hr57 : ra_in (ra_g τ 180 4) := (ra_in_g _ _ _)
              refine ra_store (L' := [_, _, _, _]) rfl rfl rfl (Nat.le_of_ble_eq_true rfl) rfl ?_
              refine ra_load rfl rfl rfl rfl ?_
              refine ra_iconst rfl ?_
              refine ra_icne rfl rfl hx0 (by first | omega | (unfold ra_in at *; omega)) (fun h58 => ?_) (fun h58 => ?_)
              · refine ra_load rfl rfl rfl rfl ?_
                refine ra_getR rfl lk_7_10 (Nat.zero_le _) sh_0 rfl ?_
                refine ra_load rfl rfl rfl rfl ?_
                refine ra_putI rfl lk_7_103 (Nat.zero_le _) (sh_D isD_1) rfl rfl ?_
                refine ra_newU hx1 (fun s59 hs59 hp60 hp60o => ?_)
                have hF61 := Fr_tr (lo := 1) (hi := 175) hF55 hs59 (by omega)
                refine ra_load rfl rfl rfl rfl ?_
                exact ra_ireturn rfl rfl (x5co_y (fun c c1 => ((hs59 c (by omega)).trans (hf53 c (by omega)))) ((x5cif_n (by omega)).trans (x5cif_n (fun q => q (by omega)))) hr57 (by show _ = ra_g τ 180 x0.toNat; first | (exfalso; omega) | (rw [show x0.toNat = 3 by omega]) | (rw [show x0.toNat = 4 by omega])) (by rw [show x0.toNat = 4 by omega]; exact x5ct_upS (j := 4) (x5CT_e4 (fun c c1 c2 c3 c4 => (hf53 c (by omega))) hT) hW.1 (by omega) (fun c c1 c2 c3 => hs59 c (by omega)) (hp60.trans (ra_w_id hx1).symm) (fun a ha => hp60o a ha)) (x5hq_k (fun c c1 c2 => (hs59 c (by omega))) he54))
              · refine ra_load rfl rfl rfl rfl ?_
                refine ra_getR rfl lk_7_10 (Nat.zero_le _) sh_0 rfl ?_
                refine ra_load rfl rfl rfl rfl ?_
                refine ra_putI rfl lk_7_100 (Nat.zero_le _) (sh_D isD_1) rfl rfl ?_
                refine ra_newU hx1 (fun s62 hs62 hp63 hp63o => ?_)
                have hF64 := Fr_tr (lo := 1) (hi := 175) hF55 hs62 (by omega)
                refine ra_goto rfl rfl ?_
                refine ra_load rfl rfl rfl rfl ?_
                exact ra_ireturn rfl rfl (x5co_y (fun c c1 => ((hs62 c (by omega)).trans (hf53 c (by omega)))) ((x5cif_n (by omega)).trans (x5cif_n (fun q => q (by omega)))) hr57 (by show _ = ra_g τ 180 x0.toNat; first | (exfalso; omega) | (rw [show x0.toNat = 3 by omega]) | (rw [show x0.toNat = 4 by omega])) (by rw [show x0.toNat = 3 by omega]; exact x5ct_upS (j := 3) (x5CT_e4 (fun c c1 c2 c3 c4 => (hf53 c (by omega))) hT) hW.1 (by omega) (fun c c1 c2 c3 => hs62 c (by omega)) (hp63.trans (ra_w_id hx1).symm) (fun a ha => hp63o a ha)) (x5hq_k (fun c c1 c2 => (hs62 c (by omega))) he54))
            · refine ra_load rfl rfl rfl rfl ?_
              refine ra_getR rfl lk_7_10 (Nat.zero_le _) sh_0 rfl ?_
              refine ra_getI rfl lk_7_100 (Nat.zero_le _) (sh_D isD_1) rfl ?_
              rw [show (ra_g s52 (1) 7) = (ra_g σ (1) 7) from (ra_gk (hf53 (1) (by omega)))]
              rw [show (ra_g σ (1) 7) = ra_g τ 180 3 from hc.2.2.2.1]
              have hr65 : ra_in (ra_g τ 180 3) := (ra_in_g _ _ _)
              refine ra_goto rfl rfl ?_
              refine ra_store (L' := [_, _, _, _]) rfl rfl rfl (Nat.le_of_ble_eq_true rfl) rfl ?_
              refine ra_load rfl rfl rfl rfl ?_
              refine ra_iconst rfl ?_
              refine ra_icne rfl rfl hx0 (by first | omega | (unfold ra_in at *; omega)) (fun h66 => ?_) (fun h66 => ?_)
              · refine ra_load rfl rfl rfl rfl ?_
                refine ra_getR rfl lk_7_10 (Nat.zero_le _) sh_0 rfl ?_
                refine ra_load rfl rfl rfl rfl ?_
                refine ra_putI rfl lk_7_103 (Nat.zero_le _) (sh_D isD_1) rfl rfl ?_
                refine ra_newU hx1 (fun s67 hs67 hp68 hp68o => ?_)
                have hF69 := Fr_tr (lo := 1) (hi := 175) hF55 hs67 (by omega)
                refine ra_load rfl rfl rfl rfl ?_
                exact ra_ireturn rfl rfl (x5co_y (fun c c1 => ((hs67 c (by omega)).trans (hf53 c (by omega)))) ((x5cif_n (by omega)).trans (x5cif_n (fun q => q (by omega)))) hr65 (by show _ = ra_g τ 180 x0.toNat; first | (exfalso; omega) | (rw [show x0.toNat = 3 by omega]) | (rw [show x0.toNat = 4 by omega])) (by rw [show x0.toNat = 4 by omega]; exact x5ct_upS (j := 4) (x5CT_e4 (fun c c1 c2 c3 c4 => (hf53 c (by omega))) hT) hW.1 (by omega) (fun c c1 c2 c3 => hs67 c (by omega)) (hp68.trans (ra_w_id hx1).symm) (fun a ha => hp68o a ha)) (x5hq_k (fun c c1 c2 => (hs67 c (by omega))) he54))
              · refine ra_load rfl rfl rfl rfl ?_
                refine ra_getR rfl lk_7_10 (Nat.zero_le _) sh_0 rfl ?_
                refine ra_load rfl rfl rfl rfl ?_
                refine ra_putI rfl lk_7_100 (Nat.zero_le _) (sh_D isD_1) rfl rfl ?_
                refine ra_newU hx1 (fun s70 hs70 hp71 hp71o => ?_)
                have hF72 := Fr_tr (lo := 1) (hi := 175) hF55 hs70 (by omega)
                refine ra_goto rfl rfl ?_
                refine ra_load rfl rfl rfl rfl ?_
                exact ra_ireturn rfl rfl (x5co_y (fun c c1 => ((hs70 c (by omega)).trans (hf53 c (by omega)))) ((x5cif_n (by omega)).trans (x5cif_n (fun q => q (by omega)))) hr65 (by show _ = ra_g τ 180 x0.toNat; first | (exfalso; omega) | (rw [show x0.toNat = 3 by omega]) | (rw [show x0.toNat = 4 by omega])) (by rw [show x0.toNat = 3 by omega]; exact x5ct_upS (j := 3) (x5CT_e4 (fun c c1 c2 c3 c4 => (hf53 c (by omega))) hT) hW.1 (by omega) (fun c c1 c2 c3 => hs70 c (by omega)) (hp71.trans (ra_w_id hx1).symm) (fun a ha => hp71o a ha)) (x5hq_k (fun c c1 c2 => (hs70 c (by omega))) he54))
          · exact ra_throw (E := "java/lang/IllegalArgumentException") rfl lk_7_128 (by decide +kernel) (fun _ => rfl) (x5co_1 (fun c c1 => rfl) (fun c c1 => rfl) ((x5cif_n (by omega)).trans (x5cif_y (by omega))))
        · refine ra_bipush rfl (by decide) ?_
          refine ra_goto rfl rfl ?_
          refine ra_icle rfl rfl hx1 (by first | omega | (unfold ra_in at *; omega)) (fun h73 => ?_) (fun h73 => ?_)
          · refine ra_load rfl rfl rfl rfl ?_
            refine ra_getR rfl lk_7_25 (Nat.zero_le _) sh_0 rfl ?_
            refine ra_load rfl rfl rfl rfl ?_
            refine ra_getR rfl lk_7_10 (Nat.zero_le _) sh_0 rfl ?_
            refine ra_cV (s5_62 isD_1 rfl hT hW hH) rfl (ct_62 rfl lk_7_260 (Or.inl rfl) sh_40 (Nat.le_of_ble_eq_true rfl)) (fun s74 hs74 => ?_)
            obtain ⟨hf75, he76⟩ := hs74
            have hF77 := Fr_tr (lo := 1) (hi := 175) Fr_rf hf75 (by omega)
            refine ra_load rfl rfl rfl rfl ?_
            refine ra_iconst rfl ?_
            refine ra_icne rfl rfl hx0 (by first | omega | (unfold ra_in at *; omega)) (fun h78 => ?_) (fun h78 => ?_)
            · refine ra_load rfl rfl rfl rfl ?_
              refine ra_getR rfl lk_7_10 (Nat.zero_le _) sh_0 rfl ?_
              refine ra_getI rfl lk_7_103 (Nat.zero_le _) (sh_D isD_1) rfl ?_
              rw [show (ra_g s74 (1) 8) = (ra_g σ (1) 8) from (ra_gk (hf75 (1) (by omega)))]
              rw [show (ra_g σ (1) 8) = ra_g τ 180 4 from hc.2.2.2.2.1]
              have hr79 : ra_in (ra_g τ 180 4) := (ra_in_g _ _ _)
              refine ra_store (L' := [_, _, _, _]) rfl rfl rfl (Nat.le_of_ble_eq_true rfl) rfl ?_
              refine ra_load rfl rfl rfl rfl ?_
              refine ra_iconst rfl ?_
              refine ra_icne rfl rfl hx0 (by first | omega | (unfold ra_in at *; omega)) (fun h80 => ?_) (fun h80 => ?_)
              · refine ra_load rfl rfl rfl rfl ?_
                refine ra_getR rfl lk_7_10 (Nat.zero_le _) sh_0 rfl ?_
                refine ra_load rfl rfl rfl rfl ?_
                refine ra_putI rfl lk_7_103 (Nat.zero_le _) (sh_D isD_1) rfl rfl ?_
                refine ra_newU hx1 (fun s81 hs81 hp82 hp82o => ?_)
                have hF83 := Fr_tr (lo := 1) (hi := 175) hF77 hs81 (by omega)
                refine ra_load rfl rfl rfl rfl ?_
                exact ra_ireturn rfl rfl (x5co_y (fun c c1 => ((hs81 c (by omega)).trans (hf75 c (by omega)))) ((x5cif_n (by omega)).trans (x5cif_n (fun q => q (by omega)))) hr79 (by show _ = ra_g τ 180 x0.toNat; first | (exfalso; omega) | (rw [show x0.toNat = 3 by omega]) | (rw [show x0.toNat = 4 by omega])) (by rw [show x0.toNat = 4 by omega]; exact x5ct_upS (j := 4) (x5CT_e4 (fun c c1 c2 c3 c4 => (hf75 c (by omega))) hT) hW.1 (by omega) (fun c c1 c2 c3 => hs81 c (by omega)) (hp82.trans (ra_w_id hx1).symm) (fun a ha => hp82o a ha)) (x5hq_k (fun c c1 c2 => (hs81 c (by omega))) he76))
              · refine ra_load rfl rfl rfl rfl ?_
                refine ra_getR rfl lk_7_10 (Nat.zero_le _) sh_0 rfl ?_
                refine ra_load rfl rfl rfl rfl ?_
                refine ra_putI rfl lk_7_100 (Nat.zero_le _) (sh_D isD_1) rfl rfl ?_
                refine ra_newU hx1 (fun s84 hs84 hp85 hp85o => ?_)
                have hF86 := Fr_tr (lo := 1) (hi := 175) hF77 hs84 (by omega)
                refine ra_goto rfl rfl ?_
                refine ra_load rfl rfl rfl rfl ?_
                exact ra_ireturn rfl rfl (x5co_y (fun c c1 => ((hs84 c (by omega)).trans (hf75 c (by omega)))) ((x5cif_n (by omega)).trans (x5cif_n (fun q => q (by omega)))) hr79 (by show _ = ra_g τ 180 x0.toNat; first | (exfalso; omega) | (rw [show x0.toNat = 3 by omega]) | (rw [show x0.toNat = 4 by omega])) (by rw [show x0.toNat = 3 by omega]; exact x5ct_upS (j := 3) (x5CT_e4 (fun c c1 c2 c3 c4 => (hf75 c (by omega))) hT) hW.1 (by omega) (fun c c1 c2 c3 => hs84 c (by omega)) (hp85.trans (ra_w_id hx1).symm) (fun a ha => hp85o a ha)) (x5hq_k (fun c c1 c2 => (hs84 c (by omega))) he76))
            · refine ra_load rfl rfl rfl rfl ?_
              refine ra_getR rfl lk_7_10 (Nat.zero_le _) sh_0 rfl ?_
              refine ra_getI rfl lk_7_100 (Nat.zero_le _) (sh_D isD_1) rfl ?_
              rw [show (ra_g s74 (1) 7) = (ra_g σ (1) 7) from (ra_gk (hf75 (1) (by omega)))]
              rw [show (ra_g σ (1) 7) = ra_g τ 180 3 from hc.2.2.2.1]
              have hr87 : ra_in (ra_g τ 180 3) := (ra_in_g _ _ _)
              refine ra_goto rfl rfl ?_
              refine ra_store (L' := [_, _, _, _]) rfl rfl rfl (Nat.le_of_ble_eq_true rfl) rfl ?_
              refine ra_load rfl rfl rfl rfl ?_
              refine ra_iconst rfl ?_
              refine ra_icne rfl rfl hx0 (by first | omega | (unfold ra_in at *; omega)) (fun h88 => ?_) (fun h88 => ?_)
              · refine ra_load rfl rfl rfl rfl ?_
                refine ra_getR rfl lk_7_10 (Nat.zero_le _) sh_0 rfl ?_
                refine ra_load rfl rfl rfl rfl ?_
                refine ra_putI rfl lk_7_103 (Nat.zero_le _) (sh_D isD_1) rfl rfl ?_
                refine ra_newU hx1 (fun s89 hs89 hp90 hp90o => ?_)
                have hF91 := Fr_tr (lo := 1) (hi := 175) hF77 hs89 (by omega)
                refine ra_load rfl rfl rfl rfl ?_
                exact ra_ireturn rfl rfl (x5co_y (fun c c1 => ((hs89 c (by omega)).trans (hf75 c (by omega)))) ((x5cif_n (by omega)).trans (x5cif_n (fun q => q (by omega)))) hr87 (by show _ = ra_g τ 180 x0.toNat; first | (exfalso; omega) | (rw [show x0.toNat = 3 by omega]) | (rw [show x0.toNat = 4 by omega])) (by rw [show x0.toNat = 4 by omega]; exact x5ct_upS (j := 4) (x5CT_e4 (fun c c1 c2 c3 c4 => (hf75 c (by omega))) hT) hW.1 (by omega) (fun c c1 c2 c3 => hs89 c (by omega)) (hp90.trans (ra_w_id hx1).symm) (fun a ha => hp90o a ha)) (x5hq_k (fun c c1 c2 => (hs89 c (by omega))) he76))
              · refine ra_load rfl rfl rfl rfl ?_
                refine ra_getR rfl lk_7_10 (Nat.zero_le _) sh_0 rfl ?_
                refine ra_load rfl rfl rfl rfl ?_
                refine ra_putI rfl lk_7_100 (Nat.zero_le _) (sh_D isD_1) rfl rfl ?_
                refine ra_newU hx1 (fun s92 hs92 hp93 hp93o => ?_)
                have hF94 := Fr_tr (lo := 1) (hi := 175) hF77 hs92 (by omega)
                refine ra_goto rfl rfl ?_
                refine ra_load rfl rfl rfl rfl ?_
                exact ra_ireturn rfl rfl (x5co_y (fun c c1 => ((hs92 c (by omega)).trans (hf75 c (by omega)))) ((x5cif_n (by omega)).trans (x5cif_n (fun q => q (by omega)))) hr87 (by show _ = ra_g τ 180 x0.toNat; first | (exfalso; omega) | (rw [show x0.toNat = 3 by omega]) | (rw [show x0.toNat = 4 by omega])) (by rw [show x0.toNat = 3 by omega]; exact x5ct_upS (j := 3) (x5CT_e4 (fun c c1 c2 c3 c4 => (hf75 c (by omega))) hT) hW.1 (by omega) (fun c c1 c2 c3 => hs92 c (by omega)) (hp93.trans (ra_w_id hx1).symm) (fun a ha => hp93o a ha)) (x5hq_k (fun c c1 c2 => (hs92 c (by omega))) he76))
          · exact ra_throw (E := "java/lang/IllegalArgumentException") rfl lk_7_128 (by decide +kernel) (fun _ => rfl) (x5co_1 (fun c c1 => rfl) (fun c c1 => rfl) ((x5cif_n (by omega)).trans (x5cif_y (by omega))))
    · exact ra_throw (E := "java/lang/IllegalArgumentException") rfl lk_7_128 (by decide +kernel) (fun _ => rfl) (x5co_1 (fun c c1 => rfl) (fun c c1 => rfl) (x5cif_y (by omega)))
end
