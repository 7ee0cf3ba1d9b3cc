/-! T5: the class packs (printed by wip/gen/c9.py) -/
section
variable {τ : ra_V} {nh : Int} {R : Nat → ra_V} {qq : Nat}
theorem s5_167 {n : Nat} {f : Nat → Int32} {d : Nat}  {σ : ra_V} (hT : x5CT τ σ 1) (hW : x5W2 τ) (hH : x5HQ nh R σ) : ra_C (g_Gs n f) g_sh 0 (d + 8) 167 [.index (0)] σ (fun r s => x5CO (x5dcCp τ) (fun z => z = x5pkN (ct τ (-1)).toNat τ) "java/lang/IllegalStateException" "" "" (x5pkV (ct τ (-1)).toNat τ) τ nh R σ s r) := by
  refine ra_enter (nn := 0) mt_167 rfl (Nat.le_of_ble_eq_true rfl) rfl (fun h => absurd h (by decide +kernel)) ?_
  refine ra_load rfl rfl rfl rfl ?_
  refine x5cXVp (s5_184 hT) rfl (ct_184 rfl lk_7_405 (Or.inl rfl) sh_0 (Nat.le_of_ble_eq_true rfl)) rfl (fun hj2y => ?_) (fun hj2n => ?_)
  · refine ra_load rfl rfl rfl rfl ?_
    refine ra_getR rfl lk_7_25 (Nat.zero_le _) sh_0 rfl ?_
    refine ra_load rfl rfl rfl rfl ?_
    refine ra_getR rfl lk_7_10 (Nat.zero_le _) sh_0 rfl ?_
    refine ra_cV (s5_62 isD_1 rfl hT hW hH) rfl (ct_62 rfl lk_7_260 (Or.inl rfl) sh_40 (Nat.le_of_ble_eq_true rfl)) (fun s3 hs3 => ?_)
    obtain ⟨hf4, he5⟩ := hs3
    have hF6 := Fr_tr (lo := 1) (hi := 175) Fr_rf hf4 (by omega)
    refine ra_load rfl rfl rfl rfl ?_
    refine ra_getR rfl lk_7_10 (Nat.zero_le _) sh_0 rfl ?_
    refine ra_cT (s5_45 isD_1 (x5CT_e4 (fun c c1 c2 c3 c4 => (hf4 c (by omega))) hT) hW hj2y) rfl (ct_45 rfl lk_7_408 (Or.inl rfl) (sh_D isD_1) (Nat.le_of_ble_eq_true rfl)) (fun s7 hs7 => ?_)
    obtain ⟨hf8, he9⟩ := hs7
    have hF10 := Fr_tr (lo := 1) (hi := 175) hF6 hf8 (by omega)
    have hr11 : ra_in (x5pkN (ct τ (-1)).toNat τ) := (x5pkN_in)
    exact ra_ireturn rfl rfl (x5co_y (fun c c1 => ((hf8 c (by omega)).trans (hf4 c (by omega)))) (x5cif_n (fun q => q hj2y)) hr11 rfl he9 (x5hq_k (fun c c1 c2 => (hf8 c (by omega))) he5))
  · exact (x5co_1 (fun c c1 => rfl) (fun c c1 => rfl) (x5cif_y hj2n))
end
