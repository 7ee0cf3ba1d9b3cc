/-! T5: the class's calls that change something (printed by wip/gen/c7.py) -/
section
variable {τ : ra_V} {nh : Int} {R : Nat → ra_V}
theorem s5_176 {n : Nat} {f : Nat → Int32} {d : Nat} {x0 : Int} {σ : ra_V} (hx0 : ra_in x0) (hT : x5CT τ σ 1) : ra_C (g_Gs n f) g_sh 0 (d + 6) 176 [.index (0), ra_I x0] σ (fun r9 s => ((∃ q9 : Nat, q9 < 8 ∧ ((q9 : Int) = x0 ∧ wq τ x0 0 = 1) ∧ r9 = .inl (some (.index (1 + 5 + q9)))) ∨ (r9 = .inr "java/util/NoSuchElementException" ∧ (¬ x5EX τ x0))) ∧ s = σ) := by
  refine ra_enter (nn := 1) mt_176 rfl (Nat.le_of_ble_eq_true rfl) rfl (fun _ => by omega) ?_
  refine ra_load rfl rfl rfl rfl ?_
  refine ra_getR rfl lk_7_10 (Nat.zero_le _) sh_0 rfl ?_
  refine ra_load rfl rfl rfl rfl ?_
  refine x5cPCp (s5_3 isD_1 hx0 (by first | assumption | rfl | omega)) rfl (ct_3 rfl lk_7_440 (Or.inl rfl) (sh_D isD_1) (Nat.le_of_ble_eq_true rfl)) (fun hj2n => ?_) (fun j2 hj2 hj2b => ?_)
  · refine ra_store (L' := [_, _, _]) rfl rfl rfl (Nat.le_of_ble_eq_true rfl) rfl ?_
    refine ra_load rfl rfl rfl rfl ?_
    refine ra_nnullF rfl rfl ?_
    exact ra_throw (E := "java/util/NoSuchElementException") rfl lk_7_442 (by decide +kernel) (fun _ => rfl) ⟨Or.inr ⟨rfl, fun q => hj2n q⟩, rfl⟩
  · refine ra_store (L' := [_, _, _]) rfl rfl rfl (Nat.le_of_ble_eq_true rfl) rfl ?_
    refine ra_load rfl rfl rfl rfl ?_
    refine ra_nnullT rfl rfl ?_
    refine ra_load rfl rfl rfl rfl ?_
    exact ra_areturn rfl rfl ⟨Or.inl ⟨_, hj2, hj2b, rfl⟩, rfl⟩
theorem s5_181 {n : Nat} {f : Nat → Int32} {d : Nat} {i0 : Nat} {σ : ra_V} (hi0 : i0 < 8) (hT : x5CT τ σ 1) (hW : x5W2 τ) (he : wq τ i0 0 = 1) : ra_C (g_Gs n f) g_sh 0 (d + 6) 181 [.index (0), .index (1 + 5 + i0)] σ (fun r9 s => ((r9 = .inl none ∧ (¬ x5FX τ i0)) ∨ (r9 = .inr "java/lang/IllegalStateException" ∧ (x5FX τ i0))) ∧ s = σ) := by
  refine ra_enter (nn := 0) mt_181 rfl (Nat.le_of_ble_eq_true rfl) rfl (fun _ => by omega) ?_
  refine ra_load rfl rfl rfl rfl ?_
  refine ra_getR rfl lk_7_10 (Nat.zero_le _) sh_0 rfl ?_
  refine ra_load rfl rfl rfl rfl ?_
  refine ra_cQPp (s5_8 isD_1 hi0 (by first | assumption | rfl | omega) (by first | assumption | rfl | omega)) rfl (ct_8 rfl lk_7_207 (Or.inl rfl) (sh_D isD_1) (Nat.le_of_ble_eq_true rfl)) (fun z2 hz2 hz2p => ?_)
  refine ra_ifne rfl rfl (ra_in01 hz2) (fun h3 => ?_) (fun h3 => ?_)
  · exact ra_return rfl rfl ⟨Or.inl ⟨rfl, (fun q => by have q9 := hz2p.mp (by omega); rcases q with q | q <;> omega)⟩, rfl⟩
  · exact ra_throw (E := "java/lang/IllegalStateException") rfl lk_7_267 (by decide +kernel) (fun _ => rfl) ⟨Or.inr ⟨rfl, by have q9 := hz2p; unfold x5FX; omega⟩, rfl⟩
theorem s5_180 {n : Nat} {f : Nat → Int32} {d : Nat}  {σ : ra_V} (hT : x5CT τ σ 1) (hW : x5W2 τ) : ra_C (g_Gs n f) g_sh 0 (d + 6) 180 [.index (0)] σ (fun r9 s => ((r9 = .inl none ∧ (¬ x5FUL τ)) ∨ (r9 = .inr "java/lang/IllegalStateException" ∧ (x5FUL τ))) ∧ s = σ) := by
  refine ra_enter (nn := 0) mt_180 rfl (Nat.le_of_ble_eq_true rfl) rfl (fun _ => by omega) ?_
  refine ra_load rfl rfl rfl rfl ?_
  refine ra_getR rfl lk_7_10 (Nat.zero_le _) sh_0 rfl ?_
  refine ra_cTp (s5_4 isD_1 (by first | assumption | rfl | omega) (by first | assumption | rfl | omega)) rfl (ct_4 rfl lk_7_83 (Or.inl rfl) (sh_D isD_1) (Nat.le_of_ble_eq_true rfl)) ?_
  have hf2 := ct_b (σ := τ) (c := -1)
  have hr3 : ra_in (ct τ (-1)) := (by have := ct_b (σ := τ) (c := -1); unfold ra_in; omega)
  refine ra_bipush rfl (by decide) ?_
  refine ra_iclt rfl rfl hr3 (by first | omega | (unfold ra_in at *; omega)) (fun h4 => ?_) (fun h4 => ?_)
  · exact ra_return rfl rfl ⟨Or.inl ⟨rfl, (by unfold x5FUL; omega)⟩, rfl⟩
  · exact ra_throw (E := "java/lang/IllegalStateException") rfl lk_7_267 (by decide +kernel) (fun _ => rfl) ⟨Or.inr ⟨rfl, by unfold x5FUL; omega⟩, rfl⟩
theorem s5_178 {n : Nat} {f : Nat → Int32} {d : Nat} {x0 : Int} {x1 : Int} {x2 : Int} {σ : ra_V} (hx0 : ra_in x0) (hx1 : ra_in x1) (hx2 : ra_in x2) : ra_C (g_Gs n f) g_sh 0 (d + 6) 178 [.index (0), ra_I x0, ra_I x1, ra_I x2] σ (fun r9 s => ((r9 = .inl none ∧ (x5TLD x0 x1 x2)) ∨ (r9 = .inr "java/lang/IllegalArgumentException" ∧ (¬ x5TLD x0 x1 x2))) ∧ s = σ) := by
  refine ra_enter (nn := 0) mt_178 rfl (Nat.le_of_ble_eq_true rfl) rfl (fun _ => by omega) ?_
  refine ra_load rfl rfl rfl rfl ?_
  refine ra_iflt rfl rfl hx0 (fun h1 => ?_) (fun h1 => ?_)
  · exact ra_throw (E := "java/lang/IllegalArgumentException") rfl lk_7_128 (by decide +kernel) (fun _ => rfl) ⟨Or.inr ⟨rfl, by unfold x5TLD; omega⟩, rfl⟩
  · refine ra_load rfl rfl rfl rfl ?_
    refine ra_bipush rfl (by decide) ?_
    refine ra_icle rfl rfl hx0 (by first | omega | (unfold ra_in at *; omega)) (fun h2 => ?_) (fun h2 => ?_)
    · refine ra_load rfl rfl rfl rfl ?_
      refine ra_iconst rfl ?_
      refine ra_iclt rfl rfl hx1 (by first | omega | (unfold ra_in at *; omega)) (fun h3 => ?_) (fun h3 => ?_)
      · exact ra_throw (E := "java/lang/IllegalArgumentException") rfl lk_7_128 (by decide +kernel) (fun _ => rfl) ⟨Or.inr ⟨rfl, by unfold x5TLD; omega⟩, rfl⟩
      · refine ra_load rfl rfl rfl rfl ?_
        refine ra_load rfl rfl rfl rfl ?_
        refine ra_icle rfl rfl hx1 hx2 (fun h4 => ?_) (fun h4 => ?_)
        · exact ra_return rfl rfl ⟨Or.inl ⟨rfl, (by unfold x5TLD; omega)⟩, rfl⟩
        · exact ra_throw (E := "java/lang/IllegalArgumentException") rfl lk_7_128 (by decide +kernel) (fun _ => rfl) ⟨Or.inr ⟨rfl, by unfold x5TLD; omega⟩, rfl⟩
    · exact ra_throw (E := "java/lang/IllegalArgumentException") rfl lk_7_128 (by decide +kernel) (fun _ => rfl) ⟨Or.inr ⟨rfl, by unfold x5TLD; omega⟩, rfl⟩
theorem s5_179 {n : Nat} {f : Nat → Int32} {d : Nat} {x0 : Int} {σ : ra_V} (hx0 : ra_in x0) : ra_C (g_Gs n f) g_sh 0 (d + 6) 179 [.index (0), ra_I x0] σ (fun r9 s => ((r9 = .inl none ∧ (0 ≤ x0 ∧ x0 ≤ 2)) ∨ (r9 = .inr "java/lang/IllegalArgumentException" ∧ (¬ (0 ≤ x0 ∧ x0 ≤ 2)))) ∧ s = σ) := by
  refine ra_enter (nn := 0) mt_179 rfl (Nat.le_of_ble_eq_true rfl) rfl (fun _ => by omega) ?_
  refine ra_load rfl rfl rfl rfl ?_
  refine ra_iflt rfl rfl hx0 (fun h1 => ?_) (fun h1 => ?_)
  · exact ra_throw (E := "java/lang/IllegalArgumentException") rfl lk_7_128 (by decide +kernel) (fun _ => rfl) ⟨Or.inr ⟨rfl, by omega⟩, rfl⟩
  · refine ra_load rfl rfl rfl rfl ?_
    refine ra_iconst rfl ?_
    refine ra_icle rfl rfl hx0 (by first | omega | (unfold ra_in at *; omega)) (fun h2 => ?_) (fun h2 => ?_)
    · exact ra_return rfl rfl ⟨Or.inl ⟨rfl, (by omega)⟩, rfl⟩
    · exact ra_throw (E := "java/lang/IllegalArgumentException") rfl lk_7_128 (by decide +kernel) (fun _ => rfl) ⟨Or.inr ⟨rfl, by omega⟩, rfl⟩
theorem s5_177 {n : Nat} {f : Nat → Int32} {d : Nat} {x0 : Int} {σ : ra_V} (hx0 : ra_in x0) (hT : x5CT τ σ 1) : ra_C (g_Gs n f) g_sh 0 (d + 6) 177 [.index (0), ra_I x0] σ (fun r9 s => ((r9 = .inl none ∧ (0 ≤ x0 ∧ x0 < ra_g τ 180 0)) ∨ (r9 = .inr "java/lang/IndexOutOfBoundsException" ∧ (¬ (0 ≤ x0 ∧ x0 < ra_g τ 180 0)))) ∧ s = σ) := by
  refine ra_enter (nn := 0) mt_177 rfl (Nat.le_of_ble_eq_true rfl) rfl (fun _ => by omega) ?_
  have hc := x5CT_s hT
  refine ra_load rfl rfl rfl rfl ?_
  refine ra_iflt rfl rfl hx0 (fun h1 => ?_) (fun h1 => ?_)
  · exact ra_throw (E := "java/lang/IndexOutOfBoundsException") rfl lk_7_172 (by decide +kernel) (fun _ => rfl) ⟨Or.inr ⟨rfl, by omega⟩, rfl⟩
  · refine ra_load rfl rfl rfl rfl ?_
    refine ra_load rfl rfl rfl rfl ?_
    refine ra_getR rfl lk_7_10 (Nat.zero_le _) sh_0 rfl ?_
    refine ra_getI rfl lk_7_93 (Nat.zero_le _) (sh_D isD_1) rfl ?_
    rw [show (ra_g σ (1) 4) = ra_g τ 180 0 from hc.1]
    have hr2 : ra_in (ra_g τ 180 0) := (ra_in_g _ _ _)
    refine ra_iclt rfl rfl hx0 hr2 (fun h3 => ?_) (fun h3 => ?_)
    · exact ra_return rfl rfl ⟨Or.inl ⟨rfl, (by omega)⟩, rfl⟩
    · exact ra_throw (E := "java/lang/IndexOutOfBoundsException") rfl lk_7_172 (by decide +kernel) (fun _ => rfl) ⟨Or.inr ⟨rfl, by omega⟩, rfl⟩
theorem s5_182 {n : Nat} {f : Nat → Int32} {d : Nat} {i0 : Nat} {x1 : Int} {σ : ra_V} (hi0 : i0 < 8) (hx1 : ra_in x1) (hT : x5CT τ σ 1) (hW : x5W2 τ) (he : wq τ i0 0 = 1) : ra_C (g_Gs n f) g_sh 0 (d + 6) 182 [.index (0), .index (1 + 5 + i0), ra_I x1] σ (fun r9 s => ((r9 = .inl none ∧ (x5whyR τ i0 x1 = 0)) ∨ (r9 = .inr "java/lang/IllegalStateException" ∧ (x5whyR τ i0 x1 ≠ 0))) ∧ s = σ) := by
  refine ra_enter (nn := 0) mt_182 rfl (Nat.le_of_ble_eq_true rfl) rfl (fun _ => by omega) ?_
  refine ra_load rfl rfl rfl rfl ?_
  refine ra_getR rfl lk_7_10 (Nat.zero_le _) sh_0 rfl ?_
  refine ra_load rfl rfl rfl rfl ?_
  refine ra_load rfl rfl rfl rfl ?_
  refine ra_cTp (s5_17 isD_1 hi0 hx1 (by first | assumption | rfl | omega) (by first | assumption | rfl | omega) (by first | assumption | rfl | omega)) rfl (ct_17 rfl lk_7_276 (Or.inl rfl) (sh_D isD_1) (Nat.le_of_ble_eq_true rfl)) ?_
  refine ra_ifeq rfl rfl x5whyR_in (fun h2 => ?_) (fun h2 => ?_)
  · exact ra_return rfl rfl ⟨Or.inl ⟨rfl, (by omega)⟩, rfl⟩
  · exact ra_throw (E := "java/lang/IllegalStateException") rfl lk_7_267 (by decide +kernel) (fun _ => rfl) ⟨Or.inr ⟨rfl, by omega⟩, rfl⟩
theorem s5_183 {n : Nat} {f : Nat → Int32} {d : Nat}  {σ : ra_V} (hT : x5CT τ σ 1) : ra_C (g_Gs n f) g_sh 0 (d + 6) 183 [.index (0)] σ (fun r9 s => ((r9 = .inl none ∧ (ra_g τ 180 16 ≠ -1)) ∨ (r9 = .inr "java/lang/IllegalStateException" ∧ (ra_g τ 180 16 = -1))) ∧ s = σ) := by
  refine ra_enter (nn := 0) mt_183 rfl (Nat.le_of_ble_eq_true rfl) rfl (fun _ => by omega) ?_
  refine ra_load rfl rfl rfl rfl ?_
  refine ra_getR rfl lk_7_10 (Nat.zero_le _) sh_0 rfl ?_
  refine ra_getR rfl lk_7_331 (Nat.zero_le _) (sh_D isD_1) rfl ?_
  refine ra_cQPp (s5_67 isD_1 (by first | assumption | rfl | omega)) rfl (ct_67 rfl lk_7_359 (Or.inl rfl) (sh_D3 isD_1) (Nat.le_of_ble_eq_true rfl)) (fun z2 hz2 hz2p => ?_)
  refine ra_ifne rfl rfl (ra_in01 hz2) (fun h3 => ?_) (fun h3 => ?_)
  · exact ra_return rfl rfl ⟨Or.inl ⟨rfl, (hz2p.mp (by omega))⟩, rfl⟩
  · exact ra_throw (E := "java/lang/IllegalStateException") rfl lk_7_267 (by decide +kernel) (fun _ => rfl) ⟨Or.inr ⟨rfl, by have q9 := hz2p; omega⟩, rfl⟩
theorem s5_184 {n : Nat} {f : Nat → Int32} {d : Nat}  {σ : ra_V} (hT : x5CT τ σ 1) : ra_C (g_Gs n f) g_sh 0 (d + 6) 184 [.index (0)] σ (fun r9 s => ((r9 = .inl none ∧ (ra_g τ 180 16 = -1)) ∨ (r9 = .inr "java/lang/IllegalStateException" ∧ (ra_g τ 180 16 ≠ -1))) ∧ s = σ) := by
  refine ra_enter (nn := 0) mt_184 rfl (Nat.le_of_ble_eq_true rfl) rfl (fun _ => by omega) ?_
  refine ra_load rfl rfl rfl rfl ?_
  refine ra_getR rfl lk_7_10 (Nat.zero_le _) sh_0 rfl ?_
  refine ra_getR rfl lk_7_331 (Nat.zero_le _) (sh_D isD_1) rfl ?_
  refine ra_cQPp (s5_67 isD_1 (by first | assumption | rfl | omega)) rfl (ct_67 rfl lk_7_359 (Or.inl rfl) (sh_D3 isD_1) (Nat.le_of_ble_eq_true rfl)) (fun z2 hz2 hz2p => ?_)
  refine ra_ifeq rfl rfl (ra_in01 hz2) (fun h3 => ?_) (fun h3 => ?_)
  · exact ra_return rfl rfl ⟨Or.inl ⟨rfl, (by have q9 := hz2p; omega)⟩, rfl⟩
  · exact ra_throw (E := "java/lang/IllegalStateException") rfl lk_7_267 (by decide +kernel) (fun _ => rfl) ⟨Or.inr ⟨rfl, hz2p.mp (by omega)⟩, rfl⟩
theorem s5_186 {n : Nat} {f : Nat → Int32} {d : Nat} {x0 : Int} {x1 : Int} {σ : ra_V} (hx0 : ra_in x0) (hx1 : ra_in x1) (hp : 0 ≤ x0 ∧ x0 ≤ 100000 ∧ 1 ≤ x1 ∧ x1 ≤ 1000) : ra_C (g_Gs n f) g_sh 0 (d + 1) 186 [ra_I x0, ra_I x1] σ (fun r9 s => r9 = .inl (some (ra_I ((x0 + x1 - 1).tdiv x1 * x1))) ∧ s = σ) := by
  refine ra_enter (nn := 0) mt_186 rfl (Nat.le_of_ble_eq_true rfl) rfl (fun h => absurd h (by decide +kernel)) ?_
  refine ra_load rfl rfl rfl rfl ?_
  refine ra_iconst rfl ?_
  refine ra_icge rfl rfl hx1 (by first | omega | (unfold ra_in at *; omega)) (fun h1 => ?_) (fun h1 => ?_)
  · refine ra_load rfl rfl rfl rfl ?_
    refine ra_load rfl rfl rfl rfl ?_
    refine ra_iadd rfl ?_
    refine ra_iconst rfl ?_
    refine ra_isub rfl ?_
    refine ra_load rfl rfl rfl rfl ?_
    refine ra_idiv rfl (by first | omega | (unfold ra_in at *; omega)) hx1 (by omega) ?_
    refine ra_load rfl rfl rfl rfl ?_
    refine ra_imul rfl ?_
    exact ra_ireturn rfl rfl ⟨(congrArg (fun z => Sum.inl (some (ra_I z))) rfl), rfl⟩
  · refine ra_load rfl rfl rfl rfl ?_
    refine ra_goto rfl rfl ?_
    exact ra_ireturn rfl rfl ⟨(congrArg (fun z => Sum.inl (some (ra_I z))) (by exfalso; omega)), rfl⟩
end
