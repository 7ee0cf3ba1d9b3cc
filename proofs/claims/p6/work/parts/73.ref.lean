/-! the reference: what its methods do (printed by wip/gen/ref.py) -/
section RB
theorem lp_194_3 {n : Nat} {f : Nat → Int32} {d : Nat} {k0 n0 : Nat} {x1 : Int} {k2 n2 : Nat} {x3 : Int} {x4 : Int} {σ : ra_V} (hsh0 : g_sh[k0]? = some (.inr (0, n0, false, none))) (hn0 : n0 ≤ 2147483647) (hx1 : ra_in x1) (hsh2 : g_sh[k2]? = some (.inr (0, n2, false, none))) (hn2 : n2 ≤ 2147483647) (hx3 : ra_in x3) (hx4 : ra_in x4) (hb : 0 ≤ x1 ∧ x1 + x4 ≤ n0 ∧ 0 ≤ x3 ∧ x3 + x4 ≤ n2 ∧ 0 ≤ x4 ∧ x4 ≤ 100000) (ho : k0 = k2 → x3 ≤ x1) : ∀ (nn : Nat) (v5 : Int) (s : ra_V) (hv5_0 : 0 ≤ v5) (hv5_1 : v5 ≤ x4) (hF : Fr (k2) (k2 + 1) σ s) (hc : CPO σ s k0 k2 x1 x3 v5) (hk : k0 ≠ k2 → s k0 = σ k0) (hm : ((x4 - v5 : Int)).toNat < nn), ra_P (g_Gs n f) g_sh 0 (d + 0) g_m_X8_copies 3 [some (.index (k0)), some (ra_I x1), some (.index (k2)), some (ra_I x3), some (ra_I x4), some (ra_I v5)] [] s (fun r s => rV r ∧ Fr (k2) (k2 + 1) σ s ∧ CPO σ s k0 k2 x1 x3 x4) := by
  intro nn
  induction nn with
  | zero => intro v5 s hv5_0 hv5_1 hF hc hk hm; exact absurd hm (Nat.not_lt_zero _)
  | succ nn ih =>
    intro v5 s hv5_0 hv5_1 hF hc hk hm
    refine ra_load rfl rfl rfl rfl ?_
    refine ra_load rfl rfl rfl rfl ?_
    refine ra_icge rfl rfl (by first | omega | (unfold ra_in at *; omega)) hx4 (fun h1 => ?_) (fun h1 => ?_)
    · exact ra_return rfl rfl ⟨rfl, ⟨hF, by obtain rfl : v5 = x4 := (by omega); exact hc⟩⟩
    · refine ra_load rfl rfl rfl rfl ?_
      refine ra_load rfl rfl rfl rfl ?_
      refine ra_load rfl rfl rfl rfl ?_
      refine ra_iadd rfl ?_
      refine ra_load rfl rfl rfl rfl ?_
      refine ra_load rfl rfl rfl rfl ?_
      refine ra_load rfl rfl rfl rfl ?_
      refine ra_iadd rfl ?_
      refine ra_iaload rfl hsh0 rfl hn0 (by first | omega | (unfold ra_in at *; omega)) (by first | omega | (unfold ra_in at *; omega)) ?_
      have hr2 : ra_in (ra_g s (k0) (x1 + v5).toNat) := (ra_in_g _ _ _)
      refine ra_iastore rfl hsh2 rfl hn2 (by first | omega | (unfold ra_in at *; omega)) (by first | omega | (unfold ra_in at *; omega)) ?_
      refine ra_newR hr2 (fun s3 hs3 hs3v hs3o => ?_)
      have hF4 := Fr_tr (lo := k2) (hi := k2 + 1) hF hs3 (by omega)
      refine ra_iinc (L' := [_, _, _, _, _, _]) rfl rfl (Nat.le_of_ble_eq_true rfl) rfl ?_
      refine ra_goto rfl rfl ?_
      exact ra_weak (by repeat' constructor) (ih (v5 + 1) s3 (by first | omega | (unfold ra_in at *; omega)) (by first | omega | (unfold ra_in at *; omega)) hF4 (cp_y hc (by omega) (by omega) (by omega) hk ho hs3v hs3o) (fun q => (hs3 k0 (by omega)).trans (hk q)) (by first | omega | (unfold ra_in at *; omega)))
theorem sp_194 {n : Nat} {f : Nat → Int32} {d : Nat} {k0 n0 : Nat} {x1 : Int} {k2 n2 : Nat} {x3 : Int} {x4 : Int} {σ : ra_V} (hsh0 : g_sh[k0]? = some (.inr (0, n0, false, none))) (hn0 : n0 ≤ 2147483647) (hx1 : ra_in x1) (hsh2 : g_sh[k2]? = some (.inr (0, n2, false, none))) (hn2 : n2 ≤ 2147483647) (hx3 : ra_in x3) (hx4 : ra_in x4) (hb : 0 ≤ x1 ∧ x1 + x4 ≤ n0 ∧ 0 ≤ x3 ∧ x3 + x4 ≤ n2 ∧ 0 ≤ x4 ∧ x4 ≤ 100000) (ho : k0 = k2 → x3 ≤ x1) : ra_C (g_Gs n f) g_sh 0 (d + 1) 194 [.index (k0), ra_I x1, .index (k2), ra_I x3, ra_I x4] σ (fun r s => rV r ∧ Fr (k2) (k2 + 1) σ s ∧ CPO σ s k0 k2 x1 x3 x4) := by
  refine ra_enter (nn := 1) mt_194 rfl (Nat.le_of_ble_eq_true rfl) rfl (fun h => absurd h (by decide +kernel)) ?_
  refine ra_iconst rfl ?_
  refine ra_store (L' := [_, _, _, _, _, _]) rfl rfl rfl (Nat.le_of_ble_eq_true rfl) rfl ?_
  exact ra_weak (by repeat' constructor) (lp_194_3 hsh0 hn0 hx1 hsh2 hn2 hx3 hx4 hb ho _ (0) σ (by first | omega | (unfold ra_in at *; omega)) (by first | omega | (unfold ra_in at *; omega)) Fr_rf cp_0 (fun _ => rfl) (Nat.lt_succ_self _))
theorem lp_208_2 {n : Nat} {f : Nat → Int32} {d : Nat} {x0 : Int} {x1 : Int} {σ : ra_V} (hx0 : ra_in x0) (hx1 : ra_in x1) (hp : 0 ≤ x0 ∧ x0 < 8) (hn : 0 ≤ wq σ x0 1 ∧ wq σ x0 1 + wq σ x0 2 ≤ 600) (hf : 0 ≤ x1) : ∀ (nn : Nat) (v3 : Int) (s : ra_V) (hv3_0 : 0 ≤ v3) (hv3_1 : ra_in v3) (hF : Fr (180) (181) σ s) (hsc : SC σ s) (hm : ((wq σ x0 2 - v3 : Int)).toNat < nn), ra_P (g_Gs n f) g_sh 0 (d + 2) g_m_X8_writes 2 [some (.index (179)), some (ra_I x0), none, some (ra_I v3)] [] s (fun r s => rV r ∧ Fr (180) (181) σ s ∧ SC σ s) := by
  intro nn
  induction nn with
  | zero => intro v3 s hv3_0 hv3_1 hF hsc hm; exact absurd hm (Nat.not_lt_zero _)
  | succ nn ih =>
    intro v3 s hv3_0 hv3_1 hF hsc hm
    have e1 := wq_sc hsc (p := x0) (w := 1) (by omega) (by omega)
    have e2 := wq_sc hsc (p := x0) (w := 2) (by omega) (by omega)
    refine ra_load rfl rfl rfl rfl ?_
    refine ra_load rfl rfl rfl rfl ?_
    refine ra_load rfl rfl rfl rfl ?_
    refine ra_iconst rfl ?_
    refine ra_cTp (sp_199 hx0 (by first | omega | (unfold ra_in at *; omega)) (by first | assumption | rfl | omega)) rfl (ct_199 rfl lk_8_67 (Or.inl rfl) sh_179 (Nat.le_of_ble_eq_true rfl)) ?_
    have hr2 : ra_in (wq s x0 (2)) := (ra_in_wq _ _ _)
    refine ra_icge rfl rfl (by first | omega | (unfold ra_in at *; omega)) hr2 (fun h3 => ?_) (fun h3 => ?_)
    · exact ra_return rfl rfl ⟨rfl, ⟨hF, hsc⟩⟩
    · refine ra_load rfl rfl rfl rfl ?_
      refine ra_getR rfl lk_8_7 (Nat.zero_le _) sh_179 rfl ?_
      refine ra_bipush rfl (by decide) ?_
      refine ra_load rfl rfl rfl rfl ?_
      refine ra_load rfl rfl rfl rfl ?_
      refine ra_iconst rfl ?_
      refine ra_cTp (sp_199 hx0 (by first | omega | (unfold ra_in at *; omega)) (by first | assumption | rfl | omega)) rfl (ct_199 rfl lk_8_67 (Or.inl rfl) sh_179 (Nat.le_of_ble_eq_true rfl)) ?_
      have hr5 : ra_in (wq s x0 (1)) := (ra_in_wq _ _ _)
      refine ra_iadd rfl ?_
      refine ra_load rfl rfl rfl rfl ?_
      refine ra_iadd rfl ?_
      refine ra_load rfl rfl rfl rfl ?_
      refine ra_load rfl rfl rfl rfl ?_
      refine ra_load rfl rfl rfl rfl ?_
      refine ra_cIp (sp_207 hx0 (by first | omega | (unfold ra_in at *; omega)) (by first | assumption | rfl | omega)) rfl (ct_207 rfl lk_8_75 (Or.inl rfl) sh_179 (Nat.le_of_ble_eq_true rfl)) (fun z7 hz7 => ?_)
      refine ra_iastore rfl sh_180 rfl (by decide) (by first | omega | (unfold ra_in at *; omega)) (by first | omega | (unfold ra_in at *; omega)) ?_
      refine ra_newR hz7 (fun s8 hs8 hs8v hs8o => ?_)
      have hF9 := Fr_tr (lo := 180) (hi := 181) hF hs8 (by omega)
      refine ra_iinc (L' := [_, _, _, _]) rfl rfl (Nat.le_of_ble_eq_true rfl) rfl ?_
      refine ra_goto rfl rfl ?_
      exact ra_weak (by repeat' constructor) (ih (v3 + 1) s8 (by first | omega | (unfold ra_in at *; omega)) (by first | omega | (unfold ra_in at *; omega)) hF9 (SC_tr hsc (fun a ha => hs8o a (by omega))) (by first | omega | (unfold ra_in at *; omega)))
theorem sp_208 {n : Nat} {f : Nat → Int32} {d : Nat} {x0 : Int} {x1 : Int} {σ : ra_V} (hx0 : ra_in x0) (hx1 : ra_in x1) (hp : 0 ≤ x0 ∧ x0 < 8) (hn : 0 ≤ wq σ x0 1 ∧ wq σ x0 1 + wq σ x0 2 ≤ 600) (hf : 0 ≤ x1) : ra_C (g_Gs n f) g_sh 0 (d + 3) 208 [.index (179), ra_I x0, ra_I x1] σ (fun r s => rV r ∧ Fr (180) (181) σ s ∧ SC σ s) := by
  refine ra_enter (nn := 1) mt_208 rfl (Nat.le_of_ble_eq_true rfl) rfl (fun h => absurd h (by decide +kernel)) ?_
  refine ra_load rfl rfl rfl rfl ?_
  refine ra_store (L' := [_, _, _, _]) rfl rfl rfl (Nat.le_of_ble_eq_true rfl) rfl ?_
  exact ra_weak (by repeat' constructor) (lp_208_2 hx0 hx1 hp hn hf _ x1 σ (by first | omega | (unfold ra_in at *; omega)) hx1 Fr_rf SC_rf (Nat.lt_succ_self _))
end RB
