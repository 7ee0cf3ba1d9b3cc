/-! T4: what the class's methods that read a text do (printed by wip/gen/c4.py) -/
section
variable {B : Nat → Int} {bn ps ta : Nat} {pk uv al : Int} {r : Nat → Int}
theorem l4_98_3 {n : Nat} {f : Nat → Int32} {d : Nat} {x0 : Int} {σ : ra_V} (hx0 : ra_in x0) (hl : 0 ≤ ra_g σ (175) 1 ∧ ra_g σ (175) 1 + 4 ≤ 500) : ∀ (nn : Nat) (v2 : Int) (s : ra_V) (hv2_0 : -8 ≤ v2) (hv2_1 : v2 ≤ 24) (hv2_2 : v2 % 8 = 0) (hF : Fr (175) (177) σ s) (hn : ra_g s (175) 1 * 8 = ra_g σ (175) 1 * 8 + (24 - v2)) (he : ra_g s 175 2 = ra_g σ 175 2 ∧ ra_g s 175 3 = ra_g σ 175 3) (hap : ∀ i : Nat, (i : Int) < ra_g s 175 1 → ra_g s 176 i = x4ap8 (ra_g σ 176) (ra_g σ 175 1).toNat x0 i) (hm : ((v2 + 8 : Int)).toNat < nn), ra_P (g_Gs n f) g_sh 0 (d + 0) g_m_X6_putBytes 3 [some (.index (175)), some (ra_I x0), some (ra_I v2)] [] s (fun r9 s => rV r9 ∧ Fr (175) (177) σ s ∧ ra_g s (175) 1 = ra_g σ (175) 1 + 4 ∧ (ra_g s 175 2 = ra_g σ 175 2 ∧ ra_g s 175 3 = ra_g σ 175 3) ∧ ∀ i : Nat, (i : Int) < ra_g σ 175 1 + 4 → ra_g s 176 i = x4ap8 (ra_g σ 176) (ra_g σ 175 1).toNat x0 i) := by
  intro nn
  induction nn with
  | zero => intro v2 s hv2_0 hv2_1 hv2_2 hF hn he hap hm; exact absurd hm (Nat.not_lt_zero _)
  | succ nn ih =>
    intro v2 s hv2_0 hv2_1 hv2_2 hF hn he hap hm
    refine ra_load rfl rfl rfl rfl ?_
    refine ra_iflt rfl rfl (by first | omega | (unfold ra_in at *; omega)) (fun h1 => ?_) (fun h1 => ?_)
    · exact ra_return rfl rfl ⟨rfl, ⟨hF, by omega, by omega, fun i hi => hap i (by omega)⟩⟩
    · refine ra_load rfl rfl rfl rfl ?_
      refine ra_getI rfl lk_6_22 (Nat.zero_le _) sh_175 rfl ?_
      have hr2 : ra_in (ra_g s (175) 1) := (ra_in_g _ _ _)
      refine ra_iflt rfl rfl hr2 (fun h3 => ?_) (fun h3 => ?_)
      · refine ra_iinc (L' := [_, _, _]) rfl rfl (Nat.le_of_ble_eq_true rfl) rfl ?_
        refine ra_goto rfl rfl ?_
        exact ra_weak (by repeat' constructor) (ih (v2 + (-8)) s (by first | omega | (unfold ra_in at *; omega)) (by first | omega | (unfold ra_in at *; omega)) (by first | omega | (unfold ra_in at *; omega)) hF (by first | assumption | omega) (by first | assumption | omega) (by exfalso; omega) (by first | omega | (unfold ra_in at *; omega)))
      · refine ra_load rfl rfl rfl rfl ?_
        refine ra_getI rfl lk_6_22 (Nat.zero_le _) sh_175 rfl ?_
        have hr4 : ra_in (ra_g s (175) 1) := (ra_in_g _ _ _)
        refine ra_load rfl rfl rfl rfl ?_
        refine ra_getR rfl lk_6_9 (Nat.zero_le _) sh_175 rfl ?_
        refine ra_alen rfl sh_176 rfl ?_
        refine ra_icge rfl rfl hr4 (by first | omega | (unfold ra_in at *; omega)) (fun h5 => ?_) (fun h5 => ?_)
        · refine ra_iinc (L' := [_, _, _]) rfl rfl (Nat.le_of_ble_eq_true rfl) rfl ?_
          refine ra_goto rfl rfl ?_
          exact ra_weak (by repeat' constructor) (ih (v2 + (-8)) s (by first | omega | (unfold ra_in at *; omega)) (by first | omega | (unfold ra_in at *; omega)) (by first | omega | (unfold ra_in at *; omega)) hF (by first | assumption | omega) (by first | assumption | omega) (by exfalso; omega) (by first | omega | (unfold ra_in at *; omega)))
        · refine ra_load rfl rfl rfl rfl ?_
          refine ra_getR rfl lk_6_9 (Nat.zero_le _) sh_175 rfl ?_
          refine ra_load rfl rfl rfl rfl ?_
          refine ra_getI rfl lk_6_22 (Nat.zero_le _) sh_175 rfl ?_
          have hr6 : ra_in (ra_g s (175) 1) := (ra_in_g _ _ _)
          refine ra_load rfl rfl rfl rfl ?_
          refine ra_load rfl rfl rfl rfl ?_
          refine ra_iushr rfl ?_
          refine ra_sipush rfl (by decide) ?_
          refine ra_iand rfl ?_
          refine ra_iastore rfl sh_176 rfl (by decide) (by first | omega | (unfold ra_in at *; omega)) (by first | omega | (unfold ra_in at *; omega)) ?_
          refine ra_newR (ra_in_op _ _ _) (fun s7 hs7 hs7v hs7o => ?_)
          have hF8 := Fr_tr (lo := 175) (hi := 177) hF hs7 (by omega)
          have hk9 : s7 (175) = s (175) := (hs7 (175) (by omega))
          refine ra_load rfl rfl rfl rfl ?_
          refine ra_dup rfl rfl ?_
          refine ra_getI rfl lk_6_22 (Nat.zero_le _) sh_175 rfl ?_
          rw [ra_gk hk9]
          have hr10 : ra_in (ra_g s (175) 1) := (ra_in_g _ _ _)
          refine ra_iconst rfl ?_
          refine ra_iadd rfl ?_
          refine ra_putI rfl lk_6_22 (Nat.zero_le _) sh_175 rfl rfl ?_
          refine ra_newU (by first | omega | (unfold ra_in at *; omega)) (fun s11 hs11 hp12 hp12o => ?_)
          have hp12_2 := hp12o 2 (by decide)
          rw [ra_gk hk9] at hp12_2
          have hp12_3 := hp12o 3 (by decide)
          rw [ra_gk hk9] at hp12_3
          have hF13 := Fr_tr (lo := 175) (hi := 177) hF8 hs11 (by omega)
          refine ra_iinc (L' := [_, _, _]) rfl rfl (Nat.le_of_ble_eq_true rfl) rfl ?_
          refine ra_goto rfl rfl ?_
          exact ra_weak (by repeat' constructor) (ih (v2 + (-8)) s11 (by first | omega | (unfold ra_in at *; omega)) (by first | omega | (unfold ra_in at *; omega)) (by first | omega | (unfold ra_in at *; omega)) hF13 (by first | assumption | omega) (by first | assumption | omega) (fun i hi => (ra_gk (hs11 176 (by omega))).trans (x4ap_s (p := (ra_g s 175 1).toNat) (fun i hi => hap i (by omega)) hs7v hs7o (by omega) (x4b8_u (by omega) (by omega)) i (by omega))) (by first | omega | (unfold ra_in at *; omega)))
theorem s4_98 {n : Nat} {f : Nat → Int32} {d : Nat} {x0 : Int} {σ : ra_V} (hx0 : ra_in x0) (hl : 0 ≤ ra_g σ (175) 1 ∧ ra_g σ (175) 1 + 4 ≤ 500) : ra_C (g_Gs n f) g_sh 0 (d + 1) 98 [.index (175), ra_I x0] σ (fun r9 s => rV r9 ∧ Fr (175) (177) σ s ∧ ra_g s (175) 1 = ra_g σ (175) 1 + 4 ∧ (ra_g s 175 2 = ra_g σ 175 2 ∧ ra_g s 175 3 = ra_g σ 175 3) ∧ ∀ i : Nat, (i : Int) < ra_g σ 175 1 + 4 → ra_g s 176 i = x4ap8 (ra_g σ 176) (ra_g σ 175 1).toNat x0 i) := by
  refine ra_enter (nn := 1) mt_98 rfl (Nat.le_of_ble_eq_true rfl) rfl (fun h => absurd h (by decide +kernel)) ?_
  refine ra_bipush rfl (by decide) ?_
  refine ra_store (L' := [_, _, _]) rfl rfl rfl (Nat.le_of_ble_eq_true rfl) rfl ?_
  exact ra_weak (by repeat' constructor) (l4_98_3 hx0 hl _ (24) σ (by first | omega | (unfold ra_in at *; omega)) (by first | omega | (unfold ra_in at *; omega)) (by first | omega | (unfold ra_in at *; omega)) Fr_rf (by first | assumption | omega) (by first | assumption | omega) (fun i hi => (x4ap_y (by omega)).symm) (Nat.lt_succ_self _))
end
