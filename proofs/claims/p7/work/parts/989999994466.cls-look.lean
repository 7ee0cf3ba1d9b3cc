/-! T5: calls of the class that only look (printed by wip/gen/c9.py) -/
section
theorem s5_168 {n : Nat} {f : Nat → Int32} {d : Nat}  {σ : ra_V}  : ra_C (g_Gs n f) g_sh 0 (d + 8) 168 [.index (0)] σ (fun r9 s => rI r9 ∧ Fr (14) (27) σ s) := by
  refine ra_enter (nn := 0) mt_168 rfl (Nat.le_of_ble_eq_true rfl) rfl (fun h => absurd h (by decide +kernel)) ?_
  refine ra_load rfl rfl rfl rfl ?_
  refine ra_getR rfl lk_7_10 (Nat.zero_le _) sh_0 rfl ?_
  refine ra_getR rfl lk_7_331 (Nat.zero_le _) (sh_D isD_1) rfl ?_
  refine ra_cBp (sp_67 isD_1) rfl (ct_67 rfl lk_7_359 (Or.inl rfl) (sh_D3 isD_1) (Nat.le_of_ble_eq_true rfl)) (fun z2 hz2 => ?_)
  refine ra_ifeq rfl rfl (ra_in01 hz2) (fun h3 => ?_) (fun h3 => ?_)
  · refine ra_load rfl rfl rfl rfl ?_
    refine ra_getR rfl lk_7_16 (Nat.zero_le _) sh_0 rfl ?_
    refine ra_load rfl rfl rfl rfl ?_
    refine ra_getR rfl lk_7_10 (Nat.zero_le _) sh_0 rfl ?_
    refine ra_cV (sp_2 isD_14 isD_1) rfl (ct_2 rfl lk_7_69 (Or.inl rfl) (sh_D isD_14) (Nat.le_of_ble_eq_true rfl)) (fun s4 hs4 => ?_)
    have hF5 := Fr_tr (lo := 14) (hi := 27) Fr_rf hs4 (by omega)
    refine ra_load rfl rfl rfl rfl ?_
    refine ra_getR rfl lk_7_16 (Nat.zero_le _) sh_0 rfl ?_
    refine ra_cI (sp_45 isD_14) rfl (ct_45 rfl lk_7_408 (Or.inl rfl) (sh_D isD_14) (Nat.le_of_ble_eq_true rfl)) (fun z7 s6  hz7 hs6 => ?_)
    have hF8 := Fr_tr (lo := 14) (hi := 27) hF5 hs6 (by omega)
    refine ra_pop rfl rfl ?_
    refine ra_load rfl rfl rfl rfl ?_
    refine ra_getR rfl lk_7_16 (Nat.zero_le _) sh_0 rfl ?_
    refine ra_getI rfl lk_7_116 (Nat.zero_le _) (sh_D isD_14) rfl ?_
    refine ra_gen (fun z9 hz9 => ?_)
    refine ra_load rfl rfl rfl rfl ?_
    refine ra_getR rfl lk_7_10 (Nat.zero_le _) sh_0 rfl ?_
    refine ra_getI rfl lk_7_116 (Nat.zero_le _) (sh_D isD_1) rfl ?_
    refine ra_gen (fun z10 hz10 => ?_)
    refine ra_isub rfl ?_
    refine ra_gen (fun z11 hz11 => ?_)
    exact ra_ireturn rfl rfl ⟨⟨_, hz11, rfl⟩, hF8⟩
  · refine ra_iconst rfl ?_
    exact ra_ireturn rfl rfl ⟨⟨_, (by first | omega | (unfold ra_in at *; omega)), rfl⟩, Fr_rf⟩
theorem l5_169_85 {n : Nat} {f : Nat → Int32} {d : Nat} {x0 : Int} {σ : ra_V} (hx0 : ra_in x0) {nn62 : Nat} (ih62 : ∀ (v2 : Int) (v3 : Int) (v6 : Int) (s : ra_V) (hv2 : ra_in v2) (hv3 : ra_in v3) (hv6_0 : 0 ≤ v6) (hv6_1 : v6 ≤ 8) (hF : Fr (172) (175) σ s) (hm : ((8 - v6 : Int)).toNat < nn62), ra_P (g_Gs n f) g_sh 0 (d + 6) g_m_X7_cheapestMove 62 [some (.index (0)), some (ra_I x0), some (ra_I v2), some (ra_I v3), some (.index (1 + 2)), some (ra_I ((8 : Nat) : Int)), some (ra_I v6), none, none, none] [] s (fun r9 s => rX ["java/lang/IllegalArgumentException", "java/lang/IllegalStateException"] rI r9 ∧ Fr (172) (175) σ s)) : ∀ (nn : Nat) (v2 : Int) (v3 : Int) (v6 : Int) (q7 : Nat) (v8 : Int) (s : ra_V) (hv2 : ra_in v2) (hv3 : ra_in v3) (hv6_0 : 0 ≤ v6) (hv6_1 : v6 < 8) (hq7 : q7 < 8) (hv8_0 : ra_in v8) (hF : Fr (172) (175) σ s) (hm0 : (8 - (v6 + 1)).toNat < nn62) (hm : ((2147483647 - v8 : Int)).toNat < nn), ra_P (g_Gs n f) g_sh 0 (d + 6) g_m_X7_cheapestMove 85 [some (.index (0)), some (ra_I x0), some (ra_I v2), some (ra_I v3), some (.index (1 + 2)), some (ra_I ((8 : Nat) : Int)), some (ra_I v6), some (.index (1 + 5 + q7)), some (ra_I v8), none] [] s (fun r9 s => rX ["java/lang/IllegalArgumentException", "java/lang/IllegalStateException"] rI r9 ∧ Fr (172) (175) σ s) := by
  intro nn
  induction nn with
  | zero => intro v2 v3 v6 q7 v8 s hv2 hv3 hv6_0 hv6_1 hq7 hv8_0 hF hm0 hm; exact absurd hm (Nat.not_lt_zero _)
  | succ nn ih =>
    intro v2 v3 v6 q7 v8 s hv2 hv3 hv6_0 hv6_1 hq7 hv8_0 hF hm0 hm
    refine ra_load rfl rfl rfl rfl ?_
    refine ra_getR rfl lk_7_10 (Nat.zero_le _) sh_0 rfl ?_
    refine ra_load rfl rfl rfl rfl ?_
    refine ra_cBp (sp_8 isD_1 hq7) rfl (ct_8 rfl lk_7_207 (Or.inl rfl) (sh_D isD_1) (Nat.le_of_ble_eq_true rfl)) (fun z13 hz13 => ?_)
    refine ra_ifeq rfl rfl (ra_in01 hz13) (fun h14 => ?_) (fun h14 => ?_)
    · refine ra_iinc (L' := [_, _, _, _, _, _, _, _, _, _]) rfl rfl (Nat.le_of_ble_eq_true rfl) rfl ?_
      refine ra_goto rfl rfl ?_
      exact ra_weak (by repeat' constructor) (ih62 v2 v3 (v6 + 1) s hv2 hv3 (by first | omega | (unfold ra_in at *; omega)) (by first | omega | (unfold ra_in at *; omega)) hF (by first | omega | (unfold ra_in at *; omega)))
    · refine ra_load rfl rfl rfl rfl ?_
      refine ra_load rfl rfl rfl rfl ?_
      refine ra_getR rfl lk_7_10 (Nat.zero_le _) sh_0 rfl ?_
      refine ra_cIp (sp_9 isD_1) rfl (ct_9 rfl lk_7_197 (Or.inl rfl) (sh_D isD_1) (Nat.le_of_ble_eq_true rfl)) (fun z16 hz16 => ?_)
      refine ra_icge rfl rfl (by first | omega | (unfold ra_in at *; omega)) hz16 (fun h17 => ?_) (fun h17 => ?_)
      · refine ra_iinc (L' := [_, _, _, _, _, _, _, _, _, _]) rfl rfl (Nat.le_of_ble_eq_true rfl) rfl ?_
        refine ra_goto rfl rfl ?_
        exact ra_weak (by repeat' constructor) (ih62 v2 v3 (v6 + 1) s hv2 hv3 (by first | omega | (unfold ra_in at *; omega)) (by first | omega | (unfold ra_in at *; omega)) hF (by first | omega | (unfold ra_in at *; omega)))
      · refine ra_load rfl rfl rfl rfl ?_
        refine ra_getR rfl lk_7_10 (Nat.zero_le _) sh_0 rfl ?_
        refine ra_load rfl rfl rfl rfl ?_
        refine ra_load rfl rfl rfl rfl ?_
        refine ra_load rfl rfl rfl rfl ?_
        refine ra_cBp (sp_46 isD_1 hq7 (by first | omega | (unfold ra_in at *; omega)) hx0) rfl (ct_46 rfl lk_7_414 (Or.inl rfl) (sh_D isD_1) (Nat.le_of_ble_eq_true rfl)) (fun z19 hz19 => ?_)
        refine ra_ifeq rfl rfl (ra_in01 hz19) (fun h20 => ?_) (fun h20 => ?_)
        · refine ra_iconst rfl ?_
          refine ra_store (L' := [_, _, _, _, _, _, _, _, _, _]) rfl rfl rfl (Nat.le_of_ble_eq_true rfl) rfl ?_
          refine ra_load rfl rfl rfl rfl ?_
          refine ra_iflt rfl rfl (by first | omega | (unfold ra_in at *; omega)) (fun h21 => ?_) (fun h21 => ?_)
          · refine ra_iinc (L' := [_, _, _, _, _, _, _, _, _, _]) rfl rfl (Nat.le_of_ble_eq_true rfl) rfl ?_
            refine ra_goto rfl rfl ?_
            exact ra_weak (by repeat' constructor) (ih v2 v3 v6 q7 (v8 + 1) s hv2 hv3 (by first | omega | (unfold ra_in at *; omega)) (by first | omega | (unfold ra_in at *; omega)) hq7 (by first | omega | (unfold ra_in at *; omega)) hF (by omega) (by first | omega | (unfold ra_in at *; omega)))
          · exact absurd h21 (by decide)
        · refine ra_load rfl rfl rfl rfl ?_
          refine ra_getR rfl lk_7_10 (Nat.zero_le _) sh_0 rfl ?_
          refine ra_load rfl rfl rfl rfl ?_
          refine ra_load rfl rfl rfl rfl ?_
          refine ra_load rfl rfl rfl rfl ?_
          refine ra_getR rfl lk_7_10 (Nat.zero_le _) sh_0 rfl ?_
          refine ra_getI rfl lk_7_103 (Nat.zero_le _) (sh_D isD_1) rfl ?_
          refine ra_gen (fun z22 hz22 => ?_)
          refine ra_cIp (sp_35 isD_1 hq7 (by first | omega | (unfold ra_in at *; omega)) hz22) rfl (ct_35 rfl lk_7_317 (Or.inl rfl) (sh_D isD_1) (Nat.le_of_ble_eq_true rfl)) (fun z24 hz24 => ?_)
          refine ra_goto rfl rfl ?_
          refine ra_store (L' := [_, _, _, _, _, _, _, _, _, _]) rfl rfl rfl (Nat.le_of_ble_eq_true rfl) rfl ?_
          refine ra_load rfl rfl rfl rfl ?_
          refine ra_iflt rfl rfl hz24 (fun h25 => ?_) (fun h25 => ?_)
          · refine ra_iinc (L' := [_, _, _, _, _, _, _, _, _, _]) rfl rfl (Nat.le_of_ble_eq_true rfl) rfl ?_
            refine ra_goto rfl rfl ?_
            exact ra_weak (by repeat' constructor) (ih v2 v3 v6 q7 (v8 + 1) s hv2 hv3 (by first | omega | (unfold ra_in at *; omega)) (by first | omega | (unfold ra_in at *; omega)) hq7 (by first | omega | (unfold ra_in at *; omega)) hF (by omega) (by first | omega | (unfold ra_in at *; omega)))
          · refine ra_load rfl rfl rfl rfl ?_
            refine ra_iflt rfl rfl hv2 (fun h26 => ?_) (fun h26 => ?_)
            · refine ra_sipush rfl (by decide) ?_
              refine ra_load rfl rfl rfl rfl ?_
              refine ra_getK rfl lk_7_190 (Nat.zero_le _) (sh_P isD_1 hq7) rfl ?_
              refine ra_imul rfl ?_
              refine ra_gen (fun z27 hz27 => ?_)
              refine ra_load rfl rfl rfl rfl ?_
              refine ra_iadd rfl ?_
              refine ra_gen (fun z28 hz28 => ?_)
              refine ra_store (L' := [_, _, _, _, _, _, _, _, _, _]) rfl rfl rfl (Nat.le_of_ble_eq_true rfl) rfl ?_
              refine ra_load rfl rfl rfl rfl ?_
              refine ra_store (L' := [_, _, _, _, _, _, _, _, _, _]) rfl rfl rfl (Nat.le_of_ble_eq_true rfl) rfl ?_
              refine ra_iinc (L' := [_, _, _, _, _, _, _, _, _, _]) rfl rfl (Nat.le_of_ble_eq_true rfl) rfl ?_
              refine ra_goto rfl rfl ?_
              exact ra_weak (by repeat' constructor) (ih z28 z24 v6 q7 (v8 + 1) s hz28 hz24 (by first | omega | (unfold ra_in at *; omega)) (by first | omega | (unfold ra_in at *; omega)) hq7 (by first | omega | (unfold ra_in at *; omega)) hF (by omega) (by first | omega | (unfold ra_in at *; omega)))
            · refine ra_load rfl rfl rfl rfl ?_
              refine ra_load rfl rfl rfl rfl ?_
              refine ra_icge rfl rfl hz24 hv3 (fun h29 => ?_) (fun h29 => ?_)
              · refine ra_iinc (L' := [_, _, _, _, _, _, _, _, _, _]) rfl rfl (Nat.le_of_ble_eq_true rfl) rfl ?_
                refine ra_goto rfl rfl ?_
                exact ra_weak (by repeat' constructor) (ih v2 v3 v6 q7 (v8 + 1) s hv2 hv3 (by first | omega | (unfold ra_in at *; omega)) (by first | omega | (unfold ra_in at *; omega)) hq7 (by first | omega | (unfold ra_in at *; omega)) hF (by omega) (by first | omega | (unfold ra_in at *; omega)))
              · refine ra_sipush rfl (by decide) ?_
                refine ra_load rfl rfl rfl rfl ?_
                refine ra_getK rfl lk_7_190 (Nat.zero_le _) (sh_P isD_1 hq7) rfl ?_
                refine ra_imul rfl ?_
                refine ra_gen (fun z30 hz30 => ?_)
                refine ra_load rfl rfl rfl rfl ?_
                refine ra_iadd rfl ?_
                refine ra_gen (fun z31 hz31 => ?_)
                refine ra_store (L' := [_, _, _, _, _, _, _, _, _, _]) rfl rfl rfl (Nat.le_of_ble_eq_true rfl) rfl ?_
                refine ra_load rfl rfl rfl rfl ?_
                refine ra_store (L' := [_, _, _, _, _, _, _, _, _, _]) rfl rfl rfl (Nat.le_of_ble_eq_true rfl) rfl ?_
                refine ra_iinc (L' := [_, _, _, _, _, _, _, _, _, _]) rfl rfl (Nat.le_of_ble_eq_true rfl) rfl ?_
                refine ra_goto rfl rfl ?_
                exact ra_weak (by repeat' constructor) (ih z31 z24 v6 q7 (v8 + 1) s hz31 hz24 (by first | omega | (unfold ra_in at *; omega)) (by first | omega | (unfold ra_in at *; omega)) hq7 (by first | omega | (unfold ra_in at *; omega)) hF (by omega) (by first | omega | (unfold ra_in at *; omega)))
theorem l5_169_62 {n : Nat} {f : Nat → Int32} {d : Nat} {x0 : Int} {σ : ra_V} (hx0 : ra_in x0) : ∀ (nn : Nat) (v2 : Int) (v3 : Int) (v6 : Int) (s : ra_V) (hv2 : ra_in v2) (hv3 : ra_in v3) (hv6_0 : 0 ≤ v6) (hv6_1 : v6 ≤ 8) (hF : Fr (172) (175) σ s) (hm : ((8 - v6 : Int)).toNat < nn), ra_P (g_Gs n f) g_sh 0 (d + 6) g_m_X7_cheapestMove 62 [some (.index (0)), some (ra_I x0), some (ra_I v2), some (ra_I v3), some (.index (1 + 2)), some (ra_I ((8 : Nat) : Int)), some (ra_I v6), none, none, none] [] s (fun r9 s => rX ["java/lang/IllegalArgumentException", "java/lang/IllegalStateException"] rI r9 ∧ Fr (172) (175) σ s) := by
  intro nn
  induction nn with
  | zero => intro v2 v3 v6 s hv2 hv3 hv6_0 hv6_1 hF hm; exact absurd hm (Nat.not_lt_zero _)
  | succ nn ih =>
    intro v2 v3 v6 s hv2 hv3 hv6_0 hv6_1 hF hm
    refine ra_load rfl rfl rfl rfl ?_
    refine ra_load rfl rfl rfl rfl ?_
    refine ra_icge rfl rfl (by first | omega | (unfold ra_in at *; omega)) (by first | omega | (unfold ra_in at *; omega)) (fun h9 => ?_) (fun h9 => ?_)
    · refine ra_load rfl rfl rfl rfl ?_
      exact ra_ireturn rfl rfl ⟨Or.inl (⟨_, hv2, rfl⟩), hF⟩
    · refine ra_load rfl rfl rfl rfl ?_
      refine ra_load rfl rfl rfl rfl ?_
      refine ra_aaload rfl (sh_D2 isD_1) rfl (by decide) (by first | omega | (unfold ra_in at *; omega)) (by first | omega | (unfold ra_in at *; omega)) (sh_pt (by first | omega | (unfold ra_in at *; omega)) (by first | omega | (unfold ra_in at *; omega))) rfl ?_
      have hi10 : v6.toNat < 8 := (by first | omega | (unfold ra_in at *; omega))
      refine ra_store (L' := [_, _, _, _, _, _, _, _, _, _]) rfl rfl rfl (Nat.le_of_ble_eq_true rfl) rfl ?_
      refine ra_load rfl rfl rfl rfl ?_
      refine ra_getR rfl lk_7_10 (Nat.zero_le _) sh_0 rfl ?_
      refine ra_getI rfl lk_7_94 (Nat.zero_le _) (sh_D isD_1) rfl ?_
      refine ra_gen (fun z11 hz11 => ?_)
      refine ra_store (L' := [_, _, _, _, _, _, _, _, _, _]) rfl rfl rfl (Nat.le_of_ble_eq_true rfl) rfl ?_
      exact ra_weak (by repeat' constructor) (l5_169_85 hx0 ih _ v2 v3 v6 v6.toNat z11 s hv2 hv3 (by first | omega | (unfold ra_in at *; omega)) (by first | omega | (unfold ra_in at *; omega)) hi10 hz11 hF (by omega) (Nat.lt_succ_self _))
theorem s5_169 {n : Nat} {f : Nat → Int32} {d : Nat} {x0 : Int} {σ : ra_V} (hx0 : ra_in x0) : ra_C (g_Gs n f) g_sh 0 (d + 7) 169 [.index (0), ra_I x0] σ (fun r9 s => rX ["java/lang/IllegalArgumentException", "java/lang/IllegalStateException"] rI r9 ∧ Fr (172) (175) σ s) := by
  refine ra_enter (nn := 8) mt_169 rfl (Nat.le_of_ble_eq_true rfl) rfl (fun _ => by omega) ?_
  refine ra_load rfl rfl rfl rfl ?_
  refine ra_iconst rfl ?_
  refine ra_iclt rfl rfl hx0 (by first | omega | (unfold ra_in at *; omega)) (fun h1 => ?_) (fun h1 => ?_)
  · exact ra_throw (E := "java/lang/IllegalArgumentException") rfl lk_7_128 (by decide +kernel) (fun _ => rfl) ⟨Or.inr ⟨_, by simp, rfl⟩, Fr_rf⟩
  · refine ra_load rfl rfl rfl rfl ?_
    refine ra_sipush rfl (by decide) ?_
    refine ra_icle rfl rfl hx0 (by first | omega | (unfold ra_in at *; omega)) (fun h2 => ?_) (fun h2 => ?_)
    · refine ra_load rfl rfl rfl rfl ?_
      refine ra_cXVp (sp_184 ) rfl (ct_184 rfl lk_7_405 (Or.inl rfl) sh_0 (Nat.le_of_ble_eq_true rfl)) rfl ?_ (fun E hE => ⟨Or.inr ⟨E, (show ∀ E ∈ (["java/lang/IllegalStateException"] : List String), E ∈ (["java/lang/IllegalArgumentException", "java/lang/IllegalStateException"] : List String) by decide) E hE, rfl⟩, Fr_rf⟩)
      refine ra_load rfl rfl rfl rfl ?_
      refine ra_cR (sp_175 ) rfl (ct_175 rfl lk_7_106 (Or.inl rfl) sh_0 (Nat.le_of_ble_eq_true rfl)) (fun s4 hs4 => ?_)
      have hF5 := Fr_tr (lo := 172) (hi := 175) Fr_rf hs4 (by omega)
      refine ra_cIp (sp_57 ) rfl (ct_57 rfl lk_7_411 (Or.inl rfl) sh_172 (Nat.le_of_ble_eq_true rfl)) (fun z7 hz7 => ?_)
      refine ra_load rfl rfl rfl rfl ?_
      refine ra_iclt rfl rfl hz7 hx0 (fun h8 => ?_) (fun h8 => ?_)
      · refine ra_iconst rfl ?_
        refine ra_store (L' := [_, _, _, _, _, _, _, _, _, _]) rfl rfl rfl (Nat.le_of_ble_eq_true rfl) rfl ?_
        refine ra_iconst rfl ?_
        refine ra_store (L' := [_, _, _, _, _, _, _, _, _, _]) rfl rfl rfl (Nat.le_of_ble_eq_true rfl) rfl ?_
        refine ra_load rfl rfl rfl rfl ?_
        refine ra_getR rfl lk_7_10 (Nat.zero_le _) sh_0 rfl ?_
        refine ra_getR rfl lk_7_203 (Nat.zero_le _) (sh_D isD_1) rfl ?_
        refine ra_store (L' := [_, _, _, _, _, _, _, _, _, _]) rfl rfl rfl (Nat.le_of_ble_eq_true rfl) rfl ?_
        refine ra_load rfl rfl rfl rfl ?_
        refine ra_alen rfl (sh_D2 isD_1) rfl ?_
        refine ra_store (L' := [_, _, _, _, _, _, _, _, _, _]) rfl rfl rfl (Nat.le_of_ble_eq_true rfl) rfl ?_
        refine ra_iconst rfl ?_
        refine ra_store (L' := [_, _, _, _, _, _, _, _, _, _]) rfl rfl rfl (Nat.le_of_ble_eq_true rfl) rfl ?_
        exact ra_weak (by repeat' constructor) (l5_169_62 hx0 _ (-1) (0) (0) s4 (by first | omega | (unfold ra_in at *; omega)) (by first | omega | (unfold ra_in at *; omega)) (by first | omega | (unfold ra_in at *; omega)) (by first | omega | (unfold ra_in at *; omega)) hF5 (Nat.lt_succ_self _))
      · refine ra_bipush rfl (by decide) ?_
        exact ra_ireturn rfl rfl ⟨Or.inl (⟨_, (by first | omega | (unfold ra_in at *; omega)), rfl⟩), hF5⟩
    · exact ra_throw (E := "java/lang/IllegalArgumentException") rfl lk_7_128 (by decide +kernel) (fun _ => rfl) ⟨Or.inr ⟨_, by simp, rfl⟩, Fr_rf⟩
end
