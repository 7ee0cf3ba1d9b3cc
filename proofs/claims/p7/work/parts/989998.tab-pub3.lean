/-! T5: the class's calls that change something (printed by wip/gen/c7.py) -/
section
variable {τ : ra_V} {nh : Int} {R : Nat → ra_V}
theorem l5_152_27 {n : Nat} {f : Nat → Int32} {d : Nat}  {σ : ra_V} (hT : x5CT τ σ 1) (hW : x5W2 τ) (hH : x5HQ nh R σ) : ∀ (nn : Nat) (v1 : Int) (v4 : Int) (s : ra_V) (hv1_0 : ra_in v1) (hv1_1 : v1 = x5shL v4.toNat τ) (hv4_0 : 0 ≤ v4) (hv4_1 : v4 ≤ 8) (hF : Fr (1) (175) σ s) (hct : x5CT (x5shV v4.toNat τ) s 1) (hw2 : x5W2 (x5shV v4.toNat τ)) (hhq : x5HQ (x5pushN nh) (x5pushR nh R τ) s) (hkk : ∀ c : Nat, (c = 0 ∨ (27 ≤ c ∧ c < 40) ∨ 175 ≤ c) → s c = σ c) (hm : ((8 - v4 : Int)).toNat < nn), ra_P (g_Gs n f) g_sh 0 (d + 3) g_m_X7_shrinkAll 27 [some (.index (0)), some (ra_I v1), some (.index (1 + 2)), some (ra_I ((8 : Nat) : Int)), some (ra_I v4), none] [] s (fun r s => x5CO (0) (fun z => z = x5shL 8 τ) "" "" "" (x5shV 8 τ) τ nh R σ s r) := by
  intro nn
  induction nn with
  | zero => intro v1 v4 s hv1_0 hv1_1 hv4_0 hv4_1 hF hct hw2 hhq hkk hm; exact absurd hm (Nat.not_lt_zero _)
  | succ nn ih =>
    intro v1 v4 s hv1_0 hv1_1 hv4_0 hv4_1 hF hct hw2 hhq hkk hm
    refine ra_load rfl rfl rfl rfl ?_
    refine ra_load rfl rfl rfl rfl ?_
    refine ra_icge rfl rfl (by first | omega | (unfold ra_in at *; omega)) (by first | omega | (unfold ra_in at *; omega)) (fun h5 => ?_) (fun h5 => ?_)
    · refine ra_load rfl rfl rfl rfl ?_
      exact ra_ireturn rfl rfl (x5co_y hkk rfl (by first | omega | (unfold ra_in at *; omega)) (by obtain rfl : v4 = 8 := (by omega); exact hv1_1) (by obtain rfl : v4 = 8 := (by omega); exact hct) hhq)
    · refine ra_load rfl rfl rfl rfl ?_
      refine ra_load rfl rfl rfl rfl ?_
      refine ra_aaload rfl (sh_D2 isD_1) rfl (by decide) (by first | omega | (unfold ra_in at *; omega)) (by first | omega | (unfold ra_in at *; omega)) (sh_pt (by first | omega | (unfold ra_in at *; omega)) (by first | omega | (unfold ra_in at *; omega))) rfl ?_
      have hi6 : v4.toNat < 8 := (by first | omega | (unfold ra_in at *; omega))
      refine ra_store (L' := [_, _, _, _, _, _]) rfl rfl rfl (Nat.le_of_ble_eq_true rfl) rfl ?_
      refine ra_load rfl rfl rfl rfl ?_
      refine ra_getR rfl lk_7_10 (Nat.zero_le _) sh_0 rfl ?_
      refine ra_load rfl rfl rfl rfl ?_
      refine ra_cQPp (s5_8 isD_1 hi6 hct hw2) rfl (ct_8 rfl lk_7_207 (Or.inl rfl) (sh_D isD_1) (Nat.le_of_ble_eq_true rfl)) (fun z8 hz8 hz8p => ?_)
      refine ra_ifeq rfl rfl (ra_in01 hz8) (fun h9 => ?_) (fun h9 => ?_)
      · refine ra_iinc (L' := [_, _, _, _, _, _]) rfl rfl (Nat.le_of_ble_eq_true rfl) rfl ?_
        refine ra_goto rfl rfl ?_
        exact ra_weak (by repeat' constructor) (ih v1 (v4 + 1) s (by first | assumption | exact ra_w_in _) (by rw [show (v4 + 1).toNat = v4.toNat + 1 by omega]; rw [x5shl_n (show ¬ x5frP (x5shV v4.toNat τ) ((v4.toNat : Nat) : Int) from fun q9 => absurd (hz8p.mpr q9) (by omega))]; exact hv1_1) (by first | omega | (unfold ra_in at *; omega)) (by first | omega | (unfold ra_in at *; omega)) hF (by rw [show (v4 + 1).toNat = v4.toNat + 1 by omega]; rw [x5sh_n (show ¬ x5frP (x5shV v4.toNat τ) ((v4.toNat : Nat) : Int) from fun q9 => absurd (hz8p.mpr q9) (by omega))]; exact hct) (by rw [show (v4 + 1).toNat = v4.toNat + 1 by omega]; rw [x5sh_n (show ¬ x5frP (x5shV v4.toNat τ) ((v4.toNat : Nat) : Int) from fun q9 => absurd (hz8p.mpr q9) (by omega))]; exact hw2) hhq (fun c c1 => (hkk c c1)) (by first | omega | (unfold ra_in at *; omega)))
      · refine ra_load rfl rfl rfl rfl ?_
        refine ra_load rfl rfl rfl rfl ?_
        refine ra_getI rfl lk_7_144 (Nat.zero_le _) (sh_P isD_1 hi6) rfl ?_
        have hr10 : ra_in (ra_g s (1 + 5 + v4.toNat) 2) := (ra_in_g _ _ _)
        refine ra_load rfl rfl rfl rfl ?_
        refine ra_getI rfl lk_7_147 (Nat.zero_le _) (sh_P isD_1 hi6) rfl ?_
        have hr11 : ra_in (ra_g s (1 + 5 + v4.toNat) 3) := (ra_in_g _ _ _)
        refine ra_isub rfl ?_
        refine ra_iadd rfl ?_
        refine x5wr_ ?_
        refine ra_store (L' := [_, _, _, _, _, _]) rfl rfl rfl (Nat.le_of_ble_eq_true rfl) rfl ?_
        refine ra_load rfl rfl rfl rfl ?_
        refine ra_load rfl rfl rfl rfl ?_
        refine ra_getI rfl lk_7_147 (Nat.zero_le _) (sh_P isD_1 hi6) rfl ?_
        have hr12 : ra_in (ra_g s (1 + 5 + v4.toNat) 3) := (ra_in_g _ _ _)
        refine ra_putI rfl lk_7_144 (Nat.zero_le _) (sh_P isD_1 hi6) rfl rfl ?_
        refine ra_newU hr12 (fun s13 hs13 hp14 hp14o => ?_)
        have hF15 := Fr_tr (lo := 1) (hi := 175) hF hs13 (by omega)
        refine ra_iinc (L' := [_, _, _, _, _, _]) rfl rfl (Nat.le_of_ble_eq_true rfl) rfl ?_
        refine ra_goto rfl rfl ?_
        exact ra_weak (by repeat' constructor) (ih (ra_w (v1 + ((ra_g s (1 + 5 + v4.toNat) 2) - (ra_g s (1 + 5 + v4.toNat) 3)))) (v4 + 1) s13 (by first | assumption | exact ra_w_in _) (by rw [show (v4 + 1).toNat = v4.toNat + 1 by omega]; rw [x5shl_y (show x5frP (x5shV v4.toNat τ) ((v4.toNat : Nat) : Int) from hz8p.mp (by omega)), ← hv1_1, (x5CT_p hct (p := v4.toNat) (by omega) (show x5frP (x5shV v4.toNat τ) ((v4.toNat : Nat) : Int) from hz8p.mp (by omega)).1).2.1, (x5CT_p hct (p := v4.toNat) (by omega) (show x5frP (x5shV v4.toNat τ) ((v4.toNat : Nat) : Int) from hz8p.mp (by omega)).1).2.2.1]) (by first | omega | (unfold ra_in at *; omega)) (by first | omega | (unfold ra_in at *; omega)) hF15 (by rw [show (v4 + 1).toNat = v4.toNat + 1 by omega]; rw [x5sh_y (show x5frP (x5shV v4.toNat τ) ((v4.toNat : Nat) : Int) from hz8p.mp (by omega))]; exact x5ct_upP (p := v4.toNat) (w := 2) hct hw2.1 (by omega) (by omega) (by omega) (by omega) (show x5frP (x5shV v4.toNat τ) ((v4.toNat : Nat) : Int) from hz8p.mp (by omega)).1 (fun _ => (show x5frP (x5shV v4.toNat τ) ((v4.toNat : Nat) : Int) from hz8p.mp (by omega)).2.2) (fun c c1 c2 c3 c4 => hs13 c (by omega)) (hp14.trans (x5CT_p hct (p := v4.toNat) (by omega) (show x5frP (x5shV v4.toNat τ) ((v4.toNat : Nat) : Int) from hz8p.mp (by omega)).1).2.2.1) (fun a ha => hp14o a ha) (fun _ => by have q9 := WF_p hw2.1 (p := ((v4.toNat : Nat) : Int)) (by omega) (by omega) (show x5frP (x5shV v4.toNat τ) ((v4.toNat : Nat) : Int) from hz8p.mp (by omega)).1; omega)) (by rw [show (v4 + 1).toNat = v4.toNat + 1 by omega]; rw [x5sh_y (show x5frP (x5shV v4.toNat τ) ((v4.toNat : Nat) : Int) from hz8p.mp (by omega))]; exact x5w2_sz hw2 ⟨by omega, by omega, (show x5frP (x5shV v4.toNat τ) ((v4.toNat : Nat) : Int) from hz8p.mp (by omega)).1⟩ (show x5frP (x5shV v4.toNat τ) ((v4.toNat : Nat) : Int) from hz8p.mp (by omega)).2.2 ⟨by omega, (WF_p hw2.1 (by omega) (by omega) (show x5frP (x5shV v4.toNat τ) ((v4.toNat : Nat) : Int) from hz8p.mp (by omega)).1).2.1⟩ rfl) (x5hq_k (fun c c1 c2 => (hs13 c (by omega))) hhq) (fun c c1 => ((hs13 c (by omega)).trans (hkk c c1))) (by first | omega | (unfold ra_in at *; omega)))
theorem s5_152 {n : Nat} {f : Nat → Int32} {d : Nat}  {σ : ra_V} (hT : x5CT τ σ 1) (hW : x5W2 τ) (hH : x5HQ nh R σ) : ra_C (g_Gs n f) g_sh 0 (d + 4) 152 [.index (0)] σ (fun r s => x5CO (0) (fun z => z = x5shL 8 τ) "" "" "" (x5shV 8 τ) τ nh R σ s r) := by
  refine ra_enter (nn := 5) mt_152 rfl (Nat.le_of_ble_eq_true rfl) rfl (fun h => absurd h (by decide +kernel)) ?_
  refine ra_load rfl rfl rfl rfl ?_
  refine ra_getR rfl lk_7_25 (Nat.zero_le _) sh_0 rfl ?_
  refine ra_load rfl rfl rfl rfl ?_
  refine ra_getR rfl lk_7_10 (Nat.zero_le _) sh_0 rfl ?_
  refine ra_cV (s5_62 isD_1 rfl hT hW hH) rfl (ct_62 rfl lk_7_260 (Or.inl rfl) sh_40 (Nat.le_of_ble_eq_true rfl)) (fun s1 hs1 => ?_)
  obtain ⟨hf2, he3⟩ := hs1
  have hF4 := Fr_tr (lo := 1) (hi := 175) Fr_rf hf2 (by omega)
  refine ra_iconst rfl ?_
  refine ra_store (L' := [_, _, _, _, _, _]) rfl rfl rfl (Nat.le_of_ble_eq_true rfl) rfl ?_
  refine ra_load rfl rfl rfl rfl ?_
  refine ra_getR rfl lk_7_10 (Nat.zero_le _) sh_0 rfl ?_
  refine ra_getR rfl lk_7_203 (Nat.zero_le _) (sh_D isD_1) rfl ?_
  refine ra_store (L' := [_, _, _, _, _, _]) rfl rfl rfl (Nat.le_of_ble_eq_true rfl) rfl ?_
  refine ra_load rfl rfl rfl rfl ?_
  refine ra_alen rfl (sh_D2 isD_1) rfl ?_
  refine ra_store (L' := [_, _, _, _, _, _]) rfl rfl rfl (Nat.le_of_ble_eq_true rfl) rfl ?_
  refine ra_iconst rfl ?_
  refine ra_store (L' := [_, _, _, _, _, _]) rfl rfl rfl (Nat.le_of_ble_eq_true rfl) rfl ?_
  exact ra_weak (by repeat' constructor) (l5_152_27 hT hW hH _ (0) (0) s1 (by first | omega | (unfold ra_in at *; omega)) rfl (by first | omega | (unfold ra_in at *; omega)) (by first | omega | (unfold ra_in at *; omega)) hF4 (x5CT_e4 (fun c c1 c2 c3 c4 => (hf2 c (by omega))) hT) hW he3 (fun c c1 => (hf2 c (by omega))) (Nat.lt_succ_self _))
theorem s5_153 {n : Nat} {f : Nat → Int32} {d : Nat}  {σ : ra_V} (hT : x5CT τ σ 1) (hW : x5W2 τ) (hH : x5HQ nh R σ) : ra_C (g_Gs n f) g_sh 0 (d + 7) 153 [.index (0)] σ (fun r s => x5CO (0) (fun _ => True) "" "" "" (τ) τ nh R σ s r) := by
  refine ra_enter (nn := 0) mt_153 rfl (Nat.le_of_ble_eq_true rfl) rfl (fun h => absurd h (by decide +kernel)) ?_
  refine ra_load rfl rfl rfl rfl ?_
  refine ra_getR rfl lk_7_25 (Nat.zero_le _) sh_0 rfl ?_
  refine ra_load rfl rfl rfl rfl ?_
  refine ra_getR rfl lk_7_10 (Nat.zero_le _) sh_0 rfl ?_
  refine ra_cV (s5_62 isD_1 rfl hT hW hH) rfl (ct_62 rfl lk_7_260 (Or.inl rfl) sh_40 (Nat.le_of_ble_eq_true rfl)) (fun s1 hs1 => ?_)
  obtain ⟨hf2, he3⟩ := hs1
  have hF4 := Fr_tr (lo := 1) (hi := 175) Fr_rf hf2 (by omega)
  refine ra_load rfl rfl rfl rfl ?_
  refine ra_getR rfl lk_7_10 (Nat.zero_le _) sh_0 rfl ?_
  refine ra_cI (sp_32 isD_1) rfl (ct_32 rfl lk_7_310 (Or.inl rfl) (sh_D isD_1) (Nat.le_of_ble_eq_true rfl)) (fun z6 s5  hz6 hs5 => ?_)
  have hF7 := Fr_tr (lo := 1) (hi := 175) hF4 hs5 (by omega)
  exact ra_ireturn rfl rfl (x5co_y (fun c c1 => ((hs5 c (by omega)).trans (hf2 c (by omega)))) rfl hz6 trivial (x5CT_e4 (fun c c1 c2 c3 c4 => ((hs5 c (by omega)).trans (hf2 c (by omega)))) hT) (x5hq_k (fun c c1 c2 => (hs5 c (by omega))) he3))
theorem s5_159 {n : Nat} {f : Nat → Int32} {d : Nat} {x0 : Int} {x1 : Int} {σ : ra_V} (hx0 : ra_in x0) (hx1 : ra_in x1) (hT : x5CT τ σ 1) (hW : x5W2 τ) (hH : x5HQ nh R σ) : ra_C (g_Gs n f) g_sh 0 (d + 7) 159 [.index (0), ra_I x0, ra_I x1] σ (fun r s => x5CO (x5dcBg τ x0 x1) (fun _ => True) "java/lang/IllegalStateException" "java/util/NoSuchElementException" "" (x5bgV τ x0 x1) τ nh R σ s r) := by
  refine ra_enter (nn := 1) mt_159 rfl (Nat.le_of_ble_eq_true rfl) rfl (fun _ => by omega) ?_
  have hc := x5CT_s hT
  have hwa := WF_a hW.1
  unfold WFa at hwa
  refine ra_load rfl rfl rfl rfl ?_
  refine ra_load rfl rfl rfl rfl ?_
  refine x5cXNp (s5_176 hx0 hT) rfl (ct_176 rfl lk_7_135 (Or.inl rfl) sh_0 (Nat.le_of_ble_eq_true rfl)) rfl (fun j2 hj2 hj2y => ?_) (fun hj2n => ?_)
  · have ej := hj2y.1
    have heq : wq τ (j2 : Int) 0 = 1 := by rw [ej]; exact hj2y.2
    have hx0e : x5EX τ x0 := ⟨by omega, by omega, hj2y.2⟩
    have hpj := x5CT_p hT (p := j2) hj2 heq
    rw [ej] at hpj
    have hpw := WF_p hW.1 (p := x0) (by omega) (by omega) hx0e.2.2
    refine ra_store (L' := [_, _, _, _]) rfl rfl rfl (Nat.le_of_ble_eq_true rfl) rfl ?_
    refine ra_load rfl rfl rfl rfl ?_
    refine ra_getR rfl lk_7_10 (Nat.zero_le _) sh_0 rfl ?_
    refine ra_load rfl rfl rfl rfl ?_
    refine ra_load rfl rfl rfl rfl ?_
    refine ra_load rfl rfl rfl rfl ?_
    refine ra_getR rfl lk_7_10 (Nat.zero_le _) sh_0 rfl ?_
    refine ra_getI rfl lk_7_103 (Nat.zero_le _) (sh_D isD_1) rfl ?_
    rw [show (ra_g σ (1) 8) = ra_g τ 180 4 from hc.2.2.2.2.1]
    have hr3 : ra_in (ra_g τ 180 4) := (ra_in_g _ _ _)
    refine ra_cTp (s5_19 isD_1 hj2 hx1 hr3 hT hW heq (by omega)) rfl (ct_19 rfl lk_7_313 (Or.inl rfl) (sh_D isD_1) (Nat.le_of_ble_eq_true rfl)) ?_
    have ewm : x5whyM τ (j2 : Int) x1 (ra_g τ 180 4) = x5whyM τ x0 x1 (ra_g τ 180 4) := by rw [ej]
    refine ra_ifeq rfl rfl x5whyM_in (fun h5 => ?_) (fun h5 => ?_)
    · refine ra_load rfl rfl rfl rfl ?_
      refine ra_getR rfl lk_7_25 (Nat.zero_le _) sh_0 rfl ?_
      refine ra_load rfl rfl rfl rfl ?_
      refine ra_getR rfl lk_7_10 (Nat.zero_le _) sh_0 rfl ?_
      refine ra_cV (s5_62 isD_1 rfl hT hW hH) rfl (ct_62 rfl lk_7_260 (Or.inl rfl) sh_40 (Nat.le_of_ble_eq_true rfl)) (fun s6 hs6 => ?_)
      obtain ⟨hf7, he8⟩ := hs6
      have hF9 := Fr_tr (lo := 1) (hi := 175) Fr_rf hf7 (by omega)
      refine ra_load rfl rfl rfl rfl ?_
      refine ra_getR rfl lk_7_10 (Nat.zero_le _) sh_0 rfl ?_
      refine ra_load rfl rfl rfl rfl ?_
      refine ra_load rfl rfl rfl rfl ?_
      refine ra_cV (s5_36 isD_1 hj2 hx1 (x5CT_e4 (fun c c1 c2 c3 c4 => (hf7 c (by omega))) hT) hW heq (by have q9 := (x5whyM_ok (τ := τ) (p := x0) (to := x1) (c := ra_g τ 180 4) (by omega)).2.2.2.1; unfold US at q9; omega)) rfl (ct_36 rfl lk_7_328 (Or.inl rfl) (sh_D isD_1) (Nat.le_of_ble_eq_true rfl)) (fun s10 hs10 => ?_)
      obtain ⟨hf11, he12⟩ := hs10
      have hF13 := Fr_tr (lo := 1) (hi := 175) hF9 hf11 (by omega)
      refine ra_load rfl rfl rfl rfl ?_
      refine ra_getR rfl lk_7_10 (Nat.zero_le _) sh_0 rfl ?_
      refine ra_getR rfl lk_7_331 (Nat.zero_le _) (sh_D isD_1) rfl ?_
      refine ra_cIp (sp_79 isD_1) rfl (ct_79 rfl lk_7_335 (Or.inl rfl) (sh_D3 isD_1) (Nat.le_of_ble_eq_true rfl)) (fun z15 hz15 => ?_)
      exact ra_ireturn rfl rfl (x5co_y (fun c c1 => ((hf11 c (by omega)).trans (hf7 c (by omega)))) ((x5cif_n (fun q => q hx0e)).trans (x5cif_n (fun q => q (by omega)))) hz15 trivial (by have q9 := he12; rw [ej] at q9; exact q9) (x5hq_k (fun c c1 c2 => (hf11 c (by omega))) he8))
    · exact ra_throw (E := "java/lang/IllegalStateException") rfl lk_7_267 (by decide +kernel) (fun _ => rfl) (x5co_1 (fun c c1 => rfl) (fun c c1 => rfl) ((x5cif_n (fun q => q hx0e)).trans (x5cif_y (by omega))))
  · exact (x5co_2 (fun c c1 => rfl) (fun c c1 => rfl) (x5cif_y hj2n))
theorem s5_160 {n : Nat} {f : Nat → Int32} {d : Nat} {x0 : Int} {σ : ra_V} (hx0 : ra_in x0) (hT : x5CT τ σ 1) (hW : x5W2 τ) (hH : x5HQ nh R σ) : ra_C (g_Gs n f) g_sh 0 (d + 7) 160 [.index (0), ra_I x0] σ (fun r s => x5CO (x5dcRun τ x0) (fun z => z = x5cnv x0.toNat τ) "java/lang/IllegalArgumentException" "java/lang/IllegalStateException" "" (x5runV x0.toNat τ) τ nh R σ s r) := by
  refine ra_enter (nn := 0) mt_160 rfl (Nat.le_of_ble_eq_true rfl) rfl (fun _ => by omega) ?_
  refine ra_load rfl rfl rfl rfl ?_
  refine ra_iconst rfl ?_
  refine ra_iclt rfl rfl hx0 (by first | omega | (unfold ra_in at *; omega)) (fun h1 => ?_) (fun h1 => ?_)
  · exact ra_throw (E := "java/lang/IllegalArgumentException") rfl lk_7_128 (by decide +kernel) (fun _ => rfl) (x5co_1 (fun c c1 => rfl) (fun c c1 => rfl) (x5cif_y (by omega)))
  · refine ra_load rfl rfl rfl rfl ?_
    refine ra_sipush rfl (by decide) ?_
    refine ra_icle rfl rfl hx0 (by first | omega | (unfold ra_in at *; omega)) (fun h2 => ?_) (fun h2 => ?_)
    · refine ra_load rfl rfl rfl rfl ?_
      refine x5cXVp (s5_183 hT) rfl (ct_183 rfl lk_7_342 (Or.inl rfl) sh_0 (Nat.le_of_ble_eq_true rfl)) rfl (fun hj4y => ?_) (fun hj4n => ?_)
      · refine ra_load rfl rfl rfl rfl ?_
        refine ra_getR rfl lk_7_25 (Nat.zero_le _) sh_0 rfl ?_
        refine ra_load rfl rfl rfl rfl ?_
        refine ra_getR rfl lk_7_10 (Nat.zero_le _) sh_0 rfl ?_
        refine ra_cV (s5_62 isD_1 rfl hT hW hH) rfl (ct_62 rfl lk_7_260 (Or.inl rfl) sh_40 (Nat.le_of_ble_eq_true rfl)) (fun s5 hs5 => ?_)
        obtain ⟨hf6, he7⟩ := hs5
        have hF8 := Fr_tr (lo := 1) (hi := 175) Fr_rf hf6 (by omega)
        refine ra_load rfl rfl rfl rfl ?_
        refine ra_getR rfl lk_7_10 (Nat.zero_le _) sh_0 rfl ?_
        refine ra_load rfl rfl rfl rfl ?_
        refine ra_cT (s5_37 isD_1 hx0 (x5CT_e4 (fun c c1 c2 c3 c4 => (hf6 c (by omega))) hT) hW (by omega)) rfl (ct_37 rfl lk_7_345 (Or.inl rfl) (sh_D isD_1) (Nat.le_of_ble_eq_true rfl)) (fun s9 hs9 => ?_)
        obtain ⟨hf10, he11⟩ := hs9
        have hF12 := Fr_tr (lo := 1) (hi := 175) hF8 hf10 (by omega)
        have hr13 : ra_in (x5cnv x0.toNat τ) := (by have := x5cnv_b (τ := τ) x0.toNat; unfold ra_in at *; omega)
        exact ra_ireturn rfl rfl (x5co_y (fun c c1 => ((hf10 c (by omega)).trans (hf6 c (by omega)))) ((x5cif_n (fun q => q (by omega))).trans (x5cif_n hj4y)) hr13 rfl he11 (x5hq_k (fun c c1 c2 => (hf10 c (by omega))) he7))
      · exact (x5co_2 (fun c c1 => rfl) (fun c c1 => rfl) ((x5cif_n (fun q => q (by omega))).trans (x5cif_y hj4n)))
    · exact ra_throw (E := "java/lang/IllegalArgumentException") rfl lk_7_128 (by decide +kernel) (fun _ => rfl) (x5co_1 (fun c c1 => rfl) (fun c c1 => rfl) (x5cif_y (by omega)))
theorem s5_161 {n : Nat} {f : Nat → Int32} {d : Nat}  {σ : ra_V} (hT : x5CT τ σ 1) (hW : x5W2 τ) (hH : x5HQ nh R σ) : ra_C (g_Gs n f) g_sh 0 (d + 7) 161 [.index (0)] σ (fun r s => x5CO (x5dcTr τ) (fun z => z = (rbn τ).tdiv 2) "java/lang/IllegalStateException" "" "" (x5up τ 7 (ra_g τ 180 7 + 1)) τ nh R σ s r) := by
  refine ra_enter (nn := 0) mt_161 rfl (Nat.le_of_ble_eq_true rfl) rfl (fun h => absurd h (by decide +kernel)) ?_
  refine ra_load rfl rfl rfl rfl ?_
  refine x5cXVp (s5_183 hT) rfl (ct_183 rfl lk_7_342 (Or.inl rfl) sh_0 (Nat.le_of_ble_eq_true rfl)) rfl (fun hj2y => ?_) (fun hj2n => ?_)
  · refine ra_load rfl rfl rfl rfl ?_
    refine ra_getR rfl lk_7_25 (Nat.zero_le _) sh_0 rfl ?_
    refine ra_load rfl rfl rfl rfl ?_
    refine ra_getR rfl lk_7_10 (Nat.zero_le _) sh_0 rfl ?_
    refine ra_cV (s5_62 isD_1 rfl hT hW hH) rfl (ct_62 rfl lk_7_260 (Or.inl rfl) sh_40 (Nat.le_of_ble_eq_true rfl)) (fun s3 hs3 => ?_)
    obtain ⟨hf4, he5⟩ := hs3
    have hF6 := Fr_tr (lo := 1) (hi := 175) Fr_rf hf4 (by omega)
    refine ra_load rfl rfl rfl rfl ?_
    refine ra_getR rfl lk_7_10 (Nat.zero_le _) sh_0 rfl ?_
    refine ra_cT (s5_39 isD_1 (x5CT_e4 (fun c c1 c2 c3 c4 => (hf4 c (by omega))) hT) hW hj2y) rfl (ct_39 rfl lk_7_348 (Or.inl rfl) (sh_D isD_1) (Nat.le_of_ble_eq_true rfl)) (fun s7 hs7 => ?_)
    obtain ⟨hf8, he9⟩ := hs7
    have hF10 := Fr_tr (lo := 1) (hi := 175) hF6 hf8 (by omega)
    have hr11 : ra_in ((rbn τ).tdiv 2) := (ra_in_tdiv (by unfold ra_in; have h9 := MV_f (hW).1 (hj2y); unfold MF at h9; omega) (by omega))
    exact ra_ireturn rfl rfl (x5co_y (fun c c1 => ((hf8 c (by omega)).trans (hf4 c (by omega)))) (x5cif_n hj2y) hr11 rfl he9 (x5hq_k (fun c c1 c2 => (hf8 c (by omega))) he5))
  · exact (x5co_1 (fun c c1 => rfl) (fun c c1 => rfl) (x5cif_y hj2n))
theorem s5_162 {n : Nat} {f : Nat → Int32} {d : Nat}  {σ : ra_V} (hT : x5CT τ σ 1) (hW : x5W2 τ) (hH : x5HQ nh R σ) : ra_C (g_Gs n f) g_sh 0 (d + 7) 162 [.index (0)] σ (fun r s => x5CO (x5dcTb τ) (fun _ => True) "java/lang/IllegalStateException" "" "" (x5tbV τ) τ nh R σ s r) := by
  refine ra_enter (nn := 0) mt_162 rfl (Nat.le_of_ble_eq_true rfl) rfl (fun _ => by omega) ?_
  refine ra_load rfl rfl rfl rfl ?_
  refine x5cXVp (s5_183 hT) rfl (ct_183 rfl lk_7_342 (Or.inl rfl) sh_0 (Nat.le_of_ble_eq_true rfl)) rfl (fun hj2y => ?_) (fun hj2n => ?_)
  · have hmon : ra_g τ 180 16 ≠ -1 := hj2y
    have hm := x5CT_m hT hmon
    have hmf := MV_f hW.1 hmon
    unfold MF at hmf
    refine ra_load rfl rfl rfl rfl ?_
    refine ra_getR rfl lk_7_10 (Nat.zero_le _) sh_0 rfl ?_
    refine ra_getR rfl lk_7_331 (Nat.zero_le _) (sh_D isD_1) rfl ?_
    refine ra_getB rfl lk_7_351 (Nat.zero_le _) (sh_D3 isD_1) rfl ?_
    refine x5gz_ (fun z3 hz3 hz3i => ?_)
    refine ra_ifeq rfl rfl (ra_in01 hz3) (fun h4 => ?_) (fun h4 => ?_)
    · refine ra_load rfl rfl rfl rfl ?_
      refine ra_getR rfl lk_7_25 (Nat.zero_le _) sh_0 rfl ?_
      refine ra_load rfl rfl rfl rfl ?_
      refine ra_getR rfl lk_7_10 (Nat.zero_le _) sh_0 rfl ?_
      refine ra_cV (s5_62 isD_1 rfl hT hW hH) rfl (ct_62 rfl lk_7_260 (Or.inl rfl) sh_40 (Nat.le_of_ble_eq_true rfl)) (fun s5 hs5 => ?_)
      obtain ⟨hf6, he7⟩ := hs5
      have hF8 := Fr_tr (lo := 1) (hi := 175) Fr_rf hf6 (by omega)
      refine ra_load rfl rfl rfl rfl ?_
      refine ra_getR rfl lk_7_10 (Nat.zero_le _) sh_0 rfl ?_
      refine ra_cV (s5_42 isD_1 (x5CT_e4 (fun c c1 c2 c3 c4 => (hf6 c (by omega))) hT) hW hmon) rfl (ct_42 rfl lk_7_356 (Or.inl rfl) (sh_D isD_1) (Nat.le_of_ble_eq_true rfl)) (fun s9 hs9 => ?_)
      obtain ⟨hf10, he11⟩ := hs9
      have hF12 := Fr_tr (lo := 1) (hi := 175) hF8 hf10 (by omega)
      refine ra_load rfl rfl rfl rfl ?_
      refine ra_getR rfl lk_7_10 (Nat.zero_le _) sh_0 rfl ?_
      refine ra_getR rfl lk_7_331 (Nat.zero_le _) (sh_D isD_1) rfl ?_
      refine ra_cIp (sp_79 isD_1) rfl (ct_79 rfl lk_7_335 (Or.inl rfl) (sh_D3 isD_1) (Nat.le_of_ble_eq_true rfl)) (fun z14 hz14 => ?_)
      exact ra_ireturn rfl rfl (x5co_y (fun c c1 => ((hf10 c (by omega)).trans (hf6 c (by omega)))) ((x5cif_n hj2y).trans (x5cif_n (by have q8 := hz3i; have q7 := hm.2.2.2.2.2.2.2; omega))) hz14 trivial he11 (x5hq_k (fun c c1 c2 => (hf10 c (by omega))) he7))
    · exact ra_throw (E := "java/lang/IllegalStateException") rfl lk_7_267 (by decide +kernel) (fun _ => rfl) (x5co_1 (fun c c1 => rfl) (fun c c1 => rfl) ((x5cif_n hj2y).trans (x5cif_y (by have q8 := hz3i; have q7 := hm.2.2.2.2.2.2.2; omega))))
  · exact (x5co_1 (fun c c1 => rfl) (fun c c1 => rfl) (x5cif_y hj2n))
end
