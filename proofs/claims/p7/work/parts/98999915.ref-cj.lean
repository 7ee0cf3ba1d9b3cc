/-! T5: what the reference changes (printed by wip/gen/r6.py) -/
section
theorem s5_311 {n : Nat} {f : Nat → Int32} {d : Nat} {x0 : Int} {σ : ra_V} (hx0 : ra_in x0) (hw : WF σ) (hp : 0 ≤ x0 ∧ x0 < 8 ∧ wq σ x0 0 = 1) : ra_C (g_Gs n f) g_sh 0 (d + 3) 311 [.index (179), ra_I x0] σ (fun r9 s => (∃ z : Int, (z = 0 ∨ z = 1) ∧ ((z = 1 → CJ σ x0) ∧ x5HID (z = 1 ↔ ∃ q, x5CJ2 σ x0 q)) ∧ r9 = .inl (some (ra_I z))) ∧ s = σ) := by
  refine ra_enter (nn := 1) mt_311 rfl (Nat.le_of_ble_eq_true rfl) rfl (fun h => absurd h (by decide +kernel)) ?_
  have hw0 := WF_a hw
  unfold WFa at hw0
  have hq := WF_p hw hp.1 hp.2.1 hp.2.2
  refine ra_load rfl rfl rfl rfl ?_
  refine ra_load rfl rfl rfl rfl ?_
  refine ra_cIPp (sp_310 hx0 hw (by first | assumption | omega)) rfl (ct_310 rfl lk_8_378 (Or.inl rfl) sh_179 (Nat.le_of_ble_eq_true rfl)) (fun z2 hz2 hz2p => ?_)
  refine ra_store (L' := [_, _, _]) rfl rfl rfl (Nat.le_of_ble_eq_true rfl) rfl ?_
  refine ra_load rfl rfl rfl rfl ?_
  refine ra_iconst rfl ?_
  refine ra_iceq rfl rfl hz2 (by first | omega | (unfold ra_in at *; omega)) (fun h3 => ?_) (fun h3 => ?_)
  · refine ra_iconst rfl ?_
    exact ra_ireturn rfl (ra_okB (Or.inl rfl)) ⟨⟨_, (Or.inl rfl), ⟨fun hq => absurd hq (by decide), x5hid (iff_of_false (by decide) (x5nj_n hw hp hz2p (by omega)))⟩, rfl⟩, rfl⟩
  · refine ra_load rfl rfl rfl rfl ?_
    refine ra_load rfl rfl rfl rfl ?_
    refine ra_iconst rfl ?_
    refine ra_cTp (sp_200 hz2 (by first | omega | (unfold ra_in at *; omega)) (by first | assumption | rfl | omega)) rfl (ct_200 rfl lk_8_67 (Or.inl rfl) sh_179 (Nat.le_of_ble_eq_true rfl)) ?_
    have hr5 : ra_in (wq σ z2 (4)) := (ra_in_wq _ _ _)
    refine ra_load rfl rfl rfl rfl ?_
    refine ra_load rfl rfl rfl rfl ?_
    refine ra_iconst rfl ?_
    refine ra_cTp (sp_200 hx0 (by first | omega | (unfold ra_in at *; omega)) (by first | assumption | rfl | omega)) rfl (ct_200 rfl lk_8_67 (Or.inl rfl) sh_179 (Nat.le_of_ble_eq_true rfl)) ?_
    have hr7 : ra_in (wq σ x0 (4)) := (ra_in_wq _ _ _)
    refine ra_icne rfl rfl hr5 hr7 (fun h8 => ?_) (fun h8 => ?_)
    · refine ra_iconst rfl ?_
      exact ra_ireturn rfl (ra_okB (Or.inl rfl)) ⟨⟨_, (Or.inl rfl), ⟨fun hq => absurd hq (by decide), x5hid (iff_of_false (by decide) (x5nj_n hw hp hz2p (by omega)))⟩, rfl⟩, rfl⟩
    · refine ra_load rfl rfl rfl rfl ?_
      refine ra_load rfl rfl rfl rfl ?_
      refine ra_cQPp (s5_206 hx0 (by first | assumption | rfl | omega)) rfl (ct_206 rfl lk_8_355 (Or.inl rfl) sh_179 (Nat.le_of_ble_eq_true rfl)) (fun z10 hz10 hz10p => ?_)
      have hz10o := hz10p.1
      have hz10q := hz10p.2
      clear hz10p
      refine ra_ifne rfl rfl (ra_in01 hz10) (fun h11 => ?_) (fun h11 => ?_)
      · refine ra_iconst rfl ?_
        exact ra_ireturn rfl (ra_okB (Or.inl rfl)) ⟨⟨_, (Or.inl rfl), ⟨fun hq => absurd hq (by decide), x5hid (iff_of_false (by decide) (x5nj_n hw hp hz2p (by first | exact Or.inr (Or.inr (Or.inl (hz10q (by omega)))) | exact Or.inr (Or.inr (Or.inr (hz10q (by omega)))))))⟩, rfl⟩, rfl⟩
      · have hf1 := hz10o (by omega)
        refine ra_load rfl rfl rfl rfl ?_
        refine ra_load rfl rfl rfl rfl ?_
        refine ra_cQPp (s5_206 hz2 (by first | assumption | rfl | omega)) rfl (ct_206 rfl lk_8_355 (Or.inl rfl) sh_179 (Nat.le_of_ble_eq_true rfl)) (fun z13 hz13 hz13p => ?_)
        have hz13o := hz13p.1
        have hz13q := hz13p.2
        clear hz13p
        refine ra_ifne rfl rfl (ra_in01 hz13) (fun h14 => ?_) (fun h14 => ?_)
        · refine ra_iconst rfl ?_
          exact ra_ireturn rfl (ra_okB (Or.inl rfl)) ⟨⟨_, (Or.inl rfl), ⟨fun hq => absurd hq (by decide), x5hid (iff_of_false (by decide) (x5nj_n hw hp hz2p (by first | exact Or.inr (Or.inr (Or.inl (hz13q (by omega)))) | exact Or.inr (Or.inr (Or.inr (hz13q (by omega)))))))⟩, rfl⟩, rfl⟩
        · have hf2 := hz13o (by omega)
          refine ra_iconst rfl ?_
          refine ra_goto rfl rfl ?_
          exact ra_ireturn rfl (ra_okB (Or.inr rfl)) ⟨⟨_, (Or.inr rfl), ⟨fun _ => ⟨z2, by omega, by omega, by omega, by omega, hf1.2, hf2.2⟩, x5hid (iff_of_true rfl ⟨z2, ⟨by omega, by omega, by omega, by omega⟩, by omega, fun q9 => by rcases q9 with q9 | q9 <;> omega, fun q9 => by rcases q9 with q9 | q9 <;> omega⟩)⟩, rfl⟩, rfl⟩
end
