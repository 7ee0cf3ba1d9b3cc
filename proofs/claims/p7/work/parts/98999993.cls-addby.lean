/-! T5: the class's gaps (printed by wip/gen/c8.py) -/
section
variable {τ : ra_V} {nh : Int} {R : Nat → ra_V}
theorem s5_141 {n : Nat} {f : Nat → Int32} {d : Nat} {x0 : Int} {x1 : Int} {x2 : Int} {x3 : Int} {σ : ra_V} (hx0 : ra_in x0) (hx1 : ra_in x1) (hx2 : ra_in x2) (hx3 : ra_in x3) (hT : x5CT τ σ 1) (hW : x5W2 τ) (hH : x5HQ nh R σ) : ra_C (g_Gs n f) g_sh 0 (d + 7) 141 [.index (0), ra_I x0, ra_I x1, ra_I x2, ra_I x3] σ (fun r s => x5CO (x5dcAb τ x0 x1 x2 x3) (fun z => z = x5nfr τ) "java/lang/IllegalArgumentException" "java/lang/IllegalStateException" "" (x5mkV τ (x5nfr τ) (x5fitF τ x0 x3) x0 x1 x2) τ nh R σ s r) := by
  refine ra_enter (nn := 1) mt_141 rfl (Nat.le_of_ble_eq_true rfl) rfl (fun _ => by omega) ?_
  refine ra_load rfl rfl rfl rfl ?_
  refine ra_load rfl rfl rfl rfl ?_
  refine ra_load rfl rfl rfl rfl ?_
  refine ra_load rfl rfl rfl rfl ?_
  refine x5cXVp (s5_178 hx1 hx2 hx0) rfl (ct_178 rfl lk_7_251 (Or.inl rfl) sh_0 (Nat.le_of_ble_eq_true rfl)) rfl (fun hj2y => ?_) (fun hj2n => ?_)
  · refine ra_load rfl rfl rfl rfl ?_
    refine ra_load rfl rfl rfl rfl ?_
    refine x5cXVp (s5_179 hx3) rfl (ct_179 rfl lk_7_235 (Or.inl rfl) sh_0 (Nat.le_of_ble_eq_true rfl)) rfl (fun hj4y => ?_) (fun hj4n => ?_)
    · refine ra_load rfl rfl rfl rfl ?_
      refine x5cXVp (s5_180 hT hW) rfl (ct_180 rfl lk_7_257 (Or.inl rfl) sh_0 (Nat.le_of_ble_eq_true rfl)) rfl (fun hj6y => ?_) (fun hj6n => ?_)
      · refine ra_load rfl rfl rfl rfl ?_
        refine ra_cR (s5_175 hT hW) rfl (ct_175 rfl lk_7_106 (Or.inl rfl) sh_0 (Nat.le_of_ble_eq_true rfl)) (fun s7 hs7 => ?_)
        obtain ⟨hf8, he9⟩ := hs7
        have hF10 := Fr_tr (lo := 1) (hi := 175) Fr_rf hf8 (by omega)
        refine ra_load rfl rfl rfl rfl ?_
        refine ra_load rfl rfl rfl rfl ?_
        refine ra_cTp (s5_59 hx0 hx3 hW he9) rfl (ct_59 rfl lk_7_238 (Or.inl rfl) sh_172 (Nat.le_of_ble_eq_true rfl)) ?_
        have hr12 : ra_in (x5fitF τ x0 x3) := (x5fit_i hW he9)
        refine ra_store (L' := [_, _, _, _, _, _]) rfl rfl rfl (Nat.le_of_ble_eq_true rfl) rfl ?_
        refine ra_load rfl rfl rfl rfl ?_
        refine ra_ifge rfl rfl hr12 (fun h13 => ?_) (fun h13 => ?_)
        · refine ra_load rfl rfl rfl rfl ?_
          refine ra_getR rfl lk_7_25 (Nat.zero_le _) sh_0 rfl ?_
          refine ra_load rfl rfl rfl rfl ?_
          refine ra_getR rfl lk_7_10 (Nat.zero_le _) sh_0 rfl ?_
          refine ra_cV (s5_62 isD_1 rfl (x5CT_e4 (fun c c1 c2 c3 c4 => (hf8 c (by omega))) hT) hW (x5hq_k (fun c c1 c2 => (hf8 c (by omega))) hH)) rfl (ct_62 rfl lk_7_260 (Or.inl rfl) sh_40 (Nat.le_of_ble_eq_true rfl)) (fun s14 hs14 => ?_)
          obtain ⟨hf15, he16⟩ := hs14
          have hF17 := Fr_tr (lo := 1) (hi := 175) hF10 hf15 (by omega)
          refine ra_load rfl rfl rfl rfl ?_
          refine ra_getR rfl lk_7_10 (Nat.zero_le _) sh_0 rfl ?_
          refine ra_load rfl rfl rfl rfl ?_
          refine ra_load rfl rfl rfl rfl ?_
          refine ra_load rfl rfl rfl rfl ?_
          refine ra_load rfl rfl rfl rfl ?_
          refine ra_cT (s5_33 isD_1 hr12 hx0 hx1 hx2 (x5CT_e4 (fun c c1 c2 c3 c4 => ((hf15 c (by omega)).trans (hf8 c (by omega)))) hT) hW (x5full_n hW.1 hj6y) (by have q9 := hj2y; unfold x5TLD at q9; omega)) rfl (ct_33 rfl lk_7_263 (Or.inl rfl) (sh_D isD_1) (Nat.le_of_ble_eq_true rfl)) (fun s18 hs18 => ?_)
          obtain ⟨hf19, he20⟩ := hs18
          have hF21 := Fr_tr (lo := 1) (hi := 175) hF17 hf19 (by omega)
          have hr22 : ra_in (x5nfr τ) := (x5nfr_in)
          exact ra_ireturn rfl rfl (x5co_y (fun c c1 => ((hf19 c (by omega)).trans ((hf15 c (by omega)).trans (hf8 c (by omega))))) ((x5cif_n (fun q => q hj2y)).trans ((x5cif_n (fun q => q hj4y)).trans ((x5cif_n hj6y).trans (x5cif_n (by omega))))) hr22 rfl he20 (x5hq_k (fun c c1 c2 => (hf19 c (by omega))) he16))
        · exact ra_throw (E := "java/lang/IllegalStateException") rfl lk_7_267 (by decide +kernel) (fun _ => rfl) (x5co_2 (fun c c1 => (hf8 c (by omega))) (fun c c1 => (hf8 c (by omega))) ((x5cif_n (fun q => q hj2y)).trans ((x5cif_n (fun q => q hj4y)).trans ((x5cif_n hj6y).trans (x5cif_y (by have q9 := x5fit_b (size := x0) (rule := x3) hW he9; omega))))))
      · exact (x5co_2 (fun c c1 => rfl) (fun c c1 => rfl) ((x5cif_n (fun q => q hj2y)).trans ((x5cif_n (fun q => q hj4y)).trans (x5cif_y hj6n))))
    · exact (x5co_1 (fun c c1 => rfl) (fun c c1 => rfl) ((x5cif_n (fun q => q hj2y)).trans (x5cif_y hj4n)))
  · exact (x5co_1 (fun c c1 => rfl) (fun c c1 => rfl) (x5cif_y hj2n))
end
